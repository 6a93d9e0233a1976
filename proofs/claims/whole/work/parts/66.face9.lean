/-! THE FACE, 9: taught -/
theorem alB_congr {p q : Nat → Bool} : ∀ (k i : Nat), (∀ j, i ≤ j → j < i + k → p j = q j) → alB p k i = alB q k i
  | 0, i, h => rfl
  | k + 1, i, h => by
    unfold alB
    rw [h i (by omega) (by omega), alB_congr k (i + 1) (fun j h1 h2 => h j (by omega) (by omega))]
theorem anB_congr {p q : Nat → Bool} : ∀ (k i : Nat), (∀ j, i ≤ j → j < i + k → p j = q j) → anB p k i = anB q k i
  | 0, i, h => rfl
  | k + 1, i, h => by
    unfold anB
    rw [h i (by omega) (by omega), anB_congr k (i + 1) (fun j h1 h2 => h j (by omega) (by omega))]
theorem fsB_congr {p q : Nat → Bool} : ∀ (k i : Nat), (∀ j, i ≤ j → j < i + k → p j = q j) → fsB p k i = fsB q k i
  | 0, i, h => rfl
  | k + 1, i, h => by
    unfold fsB
    rw [h i (by omega) (by omega), fsB_congr k (i + 1) (fun j h1 h2 => h j (by omega) (by omega))]
/-- the same rows -/
def rwE (n : Nat) (L R L' R' : Nat → Int) : Prop := rwOk n L R ∧ (∀ j, j < 12 → L j = L' j) ∧ ∀ j, j < 48 → R j = R' j
theorem loB_congr {n : Nat} {L R L' R' : Nat → Int} {a b : Nat} {k : Int} (h : rwE n L R L' R') (ha : a < 12) (hb : b < 12) (h3 : L a ≤ 3) : loB L R a b k = loB L' R' a b k := by
  unfold loB
  rw [← h.2.1 a ha]
  refine alB_congr _ _ (fun i h1 h2 => ?_)
  rw [h.2.2 _ (by omega), h.2.2 (4 * b + _) (by split <;> omega)]
theorem omB_congr {n : Nat} {L R L' R' : Nat → Int} {r f : Nat} (h : rwE n L R L' R') (hr : r < n) (hf : f < n) : omB L R r f = omB L' R' r f := by
  have hn := h.1.1
  have hL := h.1.2.1 r hr
  unfold omB
  rw [← h.2.1 r (by omega), ← h.2.1 f (by omega)]
  by_cases e : L r = L f + 1
  · rw [loB_congr (k := L f) h (by omega) (by omega) (by omega)]
  · rw [decide_eq_false e]
    rfl
theorem olB_congr {n : Nat} {L R L' R' : Nat → Int} {r f : Nat} (h : rwE n L R L' R') (hr : r < n) (hf : f < n) : olB L R r f = olB L' R' r f := by
  have hn := h.1.1
  have hL := h.1.2.1 f hf
  unfold olB
  rw [← h.2.1 r (by omega), ← h.2.1 f (by omega)]
  by_cases e : L r + 1 = L f
  · rw [anB_congr 4 0 (fun k _ _ => loB_congr (k := k) h (a := r) (b := f) (by omega) (by omega) (by omega))]
  · rw [decide_eq_false e]
    rfl
theorem tcB_congr {n : Nat} {L R L' R' tt tt' : Nat → Int} {r : Nat} (h : rwE n L R L' R') (hr : r < n) (ht : ∀ j, j < n → tt j = tt' j) : tcB n L R tt r = tcB n L' R' tt' r := by
  have hn := h.1.1
  unfold tcB
  rw [← h.2.1 r (by omega), anB_congr n 0 (fun f _ hf => by rw [ht f (by omega), omB_congr h hr (f := f) (by omega), olB_congr h hr (f := f) (by omega)])]
theorem ltB_congr {n : Nat} {L R L' R' tt tt' : Nat → Int} (h : rwE n L R L' R') (ht : ∀ j, j < n → tt j = tt' j) : ltB n L R tt = ltB n L' R' tt' := by
  unfold ltB
  exact fsB_congr n 0 (fun i _ hi => by rw [ht i (by omega), tcB_congr h (by omega) ht])
theorem arL_le {n : Nat} {L R : Nat → Int} : ∀ (k : Nat) (s : arP), (arL n L R k s).2.2 ≤ s.2.2 + k ∧ s.2.2 ≤ (arL n L R k s).2.2
  | 0, s => ⟨Nat.le_refl _, Nat.le_refl _⟩
  | k + 1, s => by
    unfold arL
    split
    · exact ⟨by omega, Nat.le_refl _⟩
    · have := arL_le (n := n) (L := L) (R := R) k (upz s.1 (ltB n L R s.1).toNat 1, upz s.2.1 s.2.2 (ltB n L R s.1), s.2.2 + 1)
      dsimp only at this
      omega
theorem arL_congr {n : Nat} {L R L' R' : Nat → Int} (h : rwE n L R L' R') : ∀ (k : Nat) (s s' : arP), (∀ j, j < n → s.1 j = s'.1 j) → s.2.2 = s'.2.2 → (∀ j, j < s.2.2 → s.2.1 j = s'.2.1 j) → (arL n L R k s).2.2 = (arL n L' R' k s').2.2 ∧ ∀ j, j < (arL n L R k s).2.2 → (arL n L R k s).2.1 j = (arL n L' R' k s').2.1 j
  | 0, s, s', h1, h2, h3 => ⟨h2, h3⟩
  | k + 1, s, s', h1, h2, h3 => by
    unfold arL
    rw [← ltB_congr h h1, ← h2]
    split
    · exact ⟨h2, h3⟩
    · refine arL_congr h k _ _ (fun j hj => ?_) rfl (fun j hj => ?_)
      · change upz s.1 _ 1 j = upz s'.1 _ 1 j
        unfold upz
        split
        · rfl
        · exact h1 j hj
      · change upz s.2.1 _ _ j = upz s'.2.1 _ _ j
        replace hj : j < s.2.2 + 1 := hj
        unfold upz
        split
        · rfl
        · exact h3 j (by omega)
def tchM (I : iS) : arP := arL I.2.1.1 I.2.1.2.1 I.2.1.2.2 12 (fun _ => 0, fun _ => 0, 0)
def taughtM (I : iS) (w : Int) : Option Int := if w = -1 then some (tchM I).2.2 else if 0 ≤ w ∧ w < (tchM I).2.2 then some ((tchM I).2.1 w.toNat) else none
section FACE
variable {T : Nat → Nat × Nat} {S : Nat → Nat → Int} {c : pm_M × pm_C} {x sA sB : Nat} {k : Int} {F : fS}
theorem o_taught {w : Int} (h : cR T S x sA sB k F) (hw : rg w) : opR 6 121 [.ref x, .int (zI w)] T S c x k (fun r F' => r = rsE (taughtM F.2.1 w) ∧ F' = F) := by
  have l10 := h.1.1
  obtain ⟨t0, tL1, tL3, tL6, tL9, tL17, tL25, tL34, tL40, tL46, tL55, tL132, tL145⟩ := id l10
  have tle : T (x + 145) = (3, 0) := tL145.1
  have tl1 : T (x + 145 + 1) = (20, 12) := tL145.2.1
  have hw' := hw
  unfold rg at hw'
  obtain ⟨-, ⟨i1, i2, i3⟩, -⟩ := h.2.2.1.1
  have hO := h.2.2.1.2.1.2.1
  have hn := hO.1
  have hS : rwOk F.2.1.2.1.1 (S (x + 34 + 4)) (S (x + 34 + 5)) := ⟨hn, fun r hr => by rw [i2 r (by omega)]; exact hO.2.1 r hr, fun j hj => by rw [i3 j hj]; exact hO.2.2 j hj⟩
  have hR : rwE F.2.1.2.1.1 (S (x + 34 + 4)) (S (x + 34 + 5)) F.2.1.2.1.2.1 F.2.1.2.1.2.2 := ⟨hS, i2, i3⟩
  have kA := c_arrange (T := T) (S := S) (c := c) (l := x + 145) (q := x + 34) (n := F.2.1.2.1.1) tL145 tL34 (by omega) i1 hS
  obtain ⟨e1, e2⟩ := arL_congr hR 12 (z12 (S (x + 145 + 2)) 12, S (x + 145 + 1), 0) (fun _ => 0, fun _ => 0, 0) (fun j hj => if_pos (by omega)) rfl (fun j hj => absurd hj (Nat.not_lt_zero j))
  change (arS F.2.1.2.1.1 S (x + 145) (x + 34)).2.2 = (tchM F.2.1).2.2 at e1
  change ∀ j, j < (arS F.2.1.2.1.1 S (x + 145) (x + 34)).2.2 → (arS F.2.1.2.1.1 S (x + 145) (x + 34)).2.1 j = (tchM F.2.1).2.1 j at e2
  have e3 : (tchM F.2.1).2.2 ≤ 12 := by
    have := (arL_le (n := F.2.1.2.1.1) (L := F.2.1.2.1.2.1) (R := F.2.1.2.1.2.2) 12 (fun _ => 0, fun _ => 0, 0)).1
    dsimp only at this
    unfold tchM
    omega
  rw [e1] at kA e2
  unfold taughtM
  generalize arS F.2.1.2.1.1 S (x + 145) (x + 34) = A at *
  generalize tchM F.2.1 = B at *
  generalize hS' : upS (upS (upS S (x + 145) (upz (S (x + 145)) 0 B.2.2)) (x + 145 + 1) A.2.1) (x + 145 + 2) A.1 = S' at kA
  have f0 : S' (x + 145) 0 = B.2.2 := by rw [← hS', upS_ne (by omega), upS_ne (by omega), upS_eq, upz_eq]
  have f1 : S' (x + 146) = A.2.1 := by rw [← hS', upS_ne (by omega), show x + 146 = x + 145 + 1 from rfl, upS_eq]
  have f2 : ∀ a, a < x + 145 ∨ x + 148 ≤ a → S' a = S a := fun a ha => by rw [← hS', upS_ne (by omega), upS_ne (by omega), upS_ne (by omega)]
  have hc : cR T S' x sA sB k F := h.eq (fun a h1 h2 h3 h4 h5 h6 h7 => f2 a (by omega)) (by rw [f2 _ (by omega)]; exact ⟨rfl, rfl⟩)
  by_cases g : w = -1
  · rw [if_pos g]
    subst g
    refine opR_val (S' := S') (v := B.2.2) (px_ofQ fun Q hQ => ?_) (fun a ha => f2 a (by omega)) hc ⟨rfl, rfl⟩
    (simp (disch := first | with_reducible assumption | omega | decide | (simp only [ps_low, List.map_cons, List.map_nil, Value.category, List.sum_cons, List.sum_nil]; decide)) only [el_X10_taught_0, el_X10_taught_1, el_X10_taught_4, el_X10_taught_5, el_X10_taught_11, el_X10_taught_12, el_X10_taught_13, el_X10_taught_16, el_X10_taught_17, el_X10_taught_20, el_X10_taught_23, el_X10_taught_24, el_X10_taught_25, el_X10_taught_28, el_X10_taught_29, el_X10_taught_30, el_X10_taught_33, el_X10_taught_36, el_X10_taught_39, el_X10_taught_40, el_X10_taught_42, el_X10_taught_45, el_X10_taught_53, el_X10_taught_54, el_X10_taught_57, el_X10_taught_60, el_X10_taught_61, el_X10_taught_62, gf_10_12, gf_10_6, gf_2_0, gf_2_1, px_ifp, px_ifn, zh_1, zc_1, zc_2, zc_3, zc_4, zc_5, zc_6, zc_7, zc_8, zc_9, zc_10, zc_11, zc_12, zc_20, zc_21, zc_22, zp_1, zp_2, zp_3, zp_4, zp_5, zp_6, zp_7, zp_8, zp_9, zp_10, zp_11, zp_12, zp_20, zp_21, zp_22, upS_eq, upS_ne, upS_up, upz_eq, upz_ne, upz_up, px_al_aI, px_as_aI, px_as_aZ, px_as_aC, px_ln_aI, Option.toList, List.cons_append, List.nil_append, Int.reduceAdd, Int.reduceSub, Int.reduceMul, ↓reduceIte, Nat.reduceEqDiff, eq_self, Int.reduceEq, Int.reduceLT, Int.reduceLE, Int.reduceNe, Int.reduceNeg, Int.reduceToNat, ne_eq, not_true_eq_false, not_false_eq_true, t0, tle, el_X10_taught_8 (kA ..) _ (zo_3 _) _, f0]; repeat (first | simp (disch := first | omega | decide) only [upz_srt, upy_upz, upz_up, upS_srt, upT_upS, upS_up] | simp (disch := first | with_reducible assumption | omega | decide | (simp only [ps_low, List.map_cons, List.map_nil, Value.category, List.sum_cons, List.sum_nil]; decide)) only [el_X10_taught_0, el_X10_taught_1, el_X10_taught_4, el_X10_taught_5, el_X10_taught_11, el_X10_taught_12, el_X10_taught_13, el_X10_taught_16, el_X10_taught_17, el_X10_taught_20, el_X10_taught_23, el_X10_taught_24, el_X10_taught_25, el_X10_taught_28, el_X10_taught_29, el_X10_taught_30, el_X10_taught_33, el_X10_taught_36, el_X10_taught_39, el_X10_taught_40, el_X10_taught_42, el_X10_taught_45, el_X10_taught_53, el_X10_taught_54, el_X10_taught_57, el_X10_taught_60, el_X10_taught_61, el_X10_taught_62, gf_10_12, gf_10_6, gf_2_0, gf_2_1, px_ifp, px_ifn, zh_1, zc_1, zc_2, zc_3, zc_4, zc_5, zc_6, zc_7, zc_8, zc_9, zc_10, zc_11, zc_12, zc_20, zc_21, zc_22, zp_1, zp_2, zp_3, zp_4, zp_5, zp_6, zp_7, zp_8, zp_9, zp_10, zp_11, zp_12, zp_20, zp_21, zp_22, upS_eq, upS_ne, upS_up, upz_eq, upz_ne, upz_up, px_al_aI, px_as_aI, px_as_aZ, px_as_aC, px_ln_aI, Option.toList, List.cons_append, List.nil_append, Int.reduceAdd, Int.reduceSub, Int.reduceMul, ↓reduceIte, Nat.reduceEqDiff, eq_self, Int.reduceEq, Int.reduceLT, Int.reduceLE, Int.reduceNe, Int.reduceNeg, Int.reduceToNat, ne_eq, not_true_eq_false, not_false_eq_true, t0, tle, el_X10_taught_8 (kA ..) _ (zo_3 _) _, f0]))
    exact hQ
  · rw [if_neg g]
    by_cases g1 : 0 ≤ w ∧ w < B.2.2
    · rw [if_pos g1]
      obtain ⟨n, rfl⟩ : ∃ n : Nat, w = n := ⟨w.toNat, by omega⟩
      rw [Int.toNat_natCast]
      refine opR_val (S' := S') (v := B.2.1 n) (px_ofQ fun Q hQ => ?_) (fun a ha => f2 a (by omega)) hc ⟨rfl, rfl⟩
      rw [← e2 n (by omega)] at hQ
      have : n < 12 := by omega
      (simp (disch := first | with_reducible assumption | omega | decide | (simp only [ps_low, List.map_cons, List.map_nil, Value.category, List.sum_cons, List.sum_nil]; decide)) only [el_X10_taught_0, el_X10_taught_1, el_X10_taught_4, el_X10_taught_5, el_X10_taught_11, el_X10_taught_12, el_X10_taught_13, el_X10_taught_16, el_X10_taught_17, el_X10_taught_20, el_X10_taught_23, el_X10_taught_24, el_X10_taught_25, el_X10_taught_28, el_X10_taught_29, el_X10_taught_30, el_X10_taught_33, el_X10_taught_36, el_X10_taught_39, el_X10_taught_40, el_X10_taught_42, el_X10_taught_45, el_X10_taught_53, el_X10_taught_54, el_X10_taught_57, el_X10_taught_60, el_X10_taught_61, el_X10_taught_62, gf_10_12, gf_10_6, gf_2_0, gf_2_1, px_ifp, px_ifn, zh_1, zc_1, zc_2, zc_3, zc_4, zc_5, zc_6, zc_7, zc_8, zc_9, zc_10, zc_11, zc_12, zc_20, zc_21, zc_22, zp_1, zp_2, zp_3, zp_4, zp_5, zp_6, zp_7, zp_8, zp_9, zp_10, zp_11, zp_12, zp_20, zp_21, zp_22, upS_eq, upS_ne, upS_up, upz_eq, upz_ne, upz_up, px_al_aI, px_as_aI, px_as_aZ, px_as_aC, px_ln_aI, Option.toList, List.cons_append, List.nil_append, Int.reduceAdd, Int.reduceSub, Int.reduceMul, ↓reduceIte, Nat.reduceEqDiff, eq_self, Int.reduceEq, Int.reduceLT, Int.reduceLE, Int.reduceNe, Int.reduceNeg, Int.reduceToNat, ne_eq, not_true_eq_false, not_false_eq_true, t0, tle, tl1, el_X10_taught_8 (kA ..) _ (zo_3 _) _, f0, f1]; repeat (first | simp (disch := first | omega | decide) only [upz_srt, upy_upz, upz_up, upS_srt, upT_upS, upS_up] | simp (disch := first | with_reducible assumption | omega | decide | (simp only [ps_low, List.map_cons, List.map_nil, Value.category, List.sum_cons, List.sum_nil]; decide)) only [el_X10_taught_0, el_X10_taught_1, el_X10_taught_4, el_X10_taught_5, el_X10_taught_11, el_X10_taught_12, el_X10_taught_13, el_X10_taught_16, el_X10_taught_17, el_X10_taught_20, el_X10_taught_23, el_X10_taught_24, el_X10_taught_25, el_X10_taught_28, el_X10_taught_29, el_X10_taught_30, el_X10_taught_33, el_X10_taught_36, el_X10_taught_39, el_X10_taught_40, el_X10_taught_42, el_X10_taught_45, el_X10_taught_53, el_X10_taught_54, el_X10_taught_57, el_X10_taught_60, el_X10_taught_61, el_X10_taught_62, gf_10_12, gf_10_6, gf_2_0, gf_2_1, px_ifp, px_ifn, zh_1, zc_1, zc_2, zc_3, zc_4, zc_5, zc_6, zc_7, zc_8, zc_9, zc_10, zc_11, zc_12, zc_20, zc_21, zc_22, zp_1, zp_2, zp_3, zp_4, zp_5, zp_6, zp_7, zp_8, zp_9, zp_10, zp_11, zp_12, zp_20, zp_21, zp_22, upS_eq, upS_ne, upS_up, upz_eq, upz_ne, upz_up, px_al_aI, px_as_aI, px_as_aZ, px_as_aC, px_ln_aI, Option.toList, List.cons_append, List.nil_append, Int.reduceAdd, Int.reduceSub, Int.reduceMul, ↓reduceIte, Nat.reduceEqDiff, eq_self, Int.reduceEq, Int.reduceLT, Int.reduceLE, Int.reduceNe, Int.reduceNeg, Int.reduceToNat, ne_eq, not_true_eq_false, not_false_eq_true, t0, tle, tl1, el_X10_taught_8 (kA ..) _ (zo_3 _) _, f0, f1]))
      exact hQ
    · rw [if_neg g1]
      refine opR_thr (S' := S') (px_ofQ fun Q hQ => ?_) (fun a ha => f2 a (by omega)) hc ⟨rfl, rfl⟩
      repeat' (first | (simp (disch := first | with_reducible assumption | omega | decide | (simp only [ps_low, List.map_cons, List.map_nil, Value.category, List.sum_cons, List.sum_nil]; decide)) only [el_X10_taught_0, el_X10_taught_1, el_X10_taught_4, el_X10_taught_5, el_X10_taught_11, el_X10_taught_12, el_X10_taught_13, el_X10_taught_16, el_X10_taught_17, el_X10_taught_20, el_X10_taught_23, el_X10_taught_24, el_X10_taught_25, el_X10_taught_28, el_X10_taught_29, el_X10_taught_30, el_X10_taught_33, el_X10_taught_36, el_X10_taught_39, el_X10_taught_40, el_X10_taught_42, el_X10_taught_45, gf_10_12, gf_10_6, gf_2_0, px_ifp, px_ifn, zh_1, zc_1, zc_2, zc_3, zc_4, zc_5, zc_6, zc_7, zc_8, zc_9, zc_10, zc_11, zc_12, zc_20, zc_21, zc_22, zp_1, zp_2, zp_3, zp_4, zp_5, zp_6, zp_7, zp_8, zp_9, zp_10, zp_11, zp_12, zp_20, zp_21, zp_22, upS_eq, upS_ne, upS_up, upz_eq, upz_ne, upz_up, px_al_aI, px_as_aI, px_as_aZ, px_as_aC, px_ln_aI, Option.toList, List.cons_append, List.nil_append, Int.reduceAdd, Int.reduceSub, Int.reduceMul, ↓reduceIte, Nat.reduceEqDiff, eq_self, Int.reduceEq, Int.reduceLT, Int.reduceLE, Int.reduceNe, Int.reduceNeg, Int.reduceToNat, ne_eq, not_true_eq_false, not_false_eq_true, t0, tle, el_X10_taught_8 (kA ..) _ (zo_3 _) _, f0, zh_thrown]; repeat (first | simp (disch := first | omega | decide) only [upz_srt, upy_upz, upz_up, upS_srt, upT_upS, upS_up] | simp (disch := first | with_reducible assumption | omega | decide | (simp only [ps_low, List.map_cons, List.map_nil, Value.category, List.sum_cons, List.sum_nil]; decide)) only [el_X10_taught_0, el_X10_taught_1, el_X10_taught_4, el_X10_taught_5, el_X10_taught_11, el_X10_taught_12, el_X10_taught_13, el_X10_taught_16, el_X10_taught_17, el_X10_taught_20, el_X10_taught_23, el_X10_taught_24, el_X10_taught_25, el_X10_taught_28, el_X10_taught_29, el_X10_taught_30, el_X10_taught_33, el_X10_taught_36, el_X10_taught_39, el_X10_taught_40, el_X10_taught_42, el_X10_taught_45, gf_10_12, gf_10_6, gf_2_0, px_ifp, px_ifn, zh_1, zc_1, zc_2, zc_3, zc_4, zc_5, zc_6, zc_7, zc_8, zc_9, zc_10, zc_11, zc_12, zc_20, zc_21, zc_22, zp_1, zp_2, zp_3, zp_4, zp_5, zp_6, zp_7, zp_8, zp_9, zp_10, zp_11, zp_12, zp_20, zp_21, zp_22, upS_eq, upS_ne, upS_up, upz_eq, upz_ne, upz_up, px_al_aI, px_as_aI, px_as_aZ, px_as_aC, px_ln_aI, Option.toList, List.cons_append, List.nil_append, Int.reduceAdd, Int.reduceSub, Int.reduceMul, ↓reduceIte, Nat.reduceEqDiff, eq_self, Int.reduceEq, Int.reduceLT, Int.reduceLE, Int.reduceNe, Int.reduceNeg, Int.reduceToNat, ne_eq, not_true_eq_false, not_false_eq_true, t0, tle, el_X10_taught_8 (kA ..) _ (zo_3 _) _, f0, zh_thrown])) | simp (disch := first | omega | decide) only [upz_srt, upy_upz, upz_up, upS_srt, upT_upS, upS_up] | with_reducible refine px_ite (fun _ => ?_) (fun _ => ?_))
      all_goals first | exact hQ | (exfalso; omega)
end FACE
