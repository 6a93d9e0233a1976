/-! THE FACE: what is kept, in numbers.
iS what an image keeps: folds, rows to be taught (how many, lengths, folds), STATUS -/
abbrev iS : Type := List (Int × Int) × (Nat × (Nat → Int) × (Nat → Int)) × (Nat → Int)
def wD (D : Nat → Nat → Int) : Nat := (D 0 0).toNat
def nD (D : Nat → Nat → Int) : Nat := (D 0 1).toNat * (D 0 0).toNat
/-- the sheet behind these folds -/
def layF (D : Nat → Nat → Int) (M : sM) (fs : List (Int × Int)) : sM := fs.foldl (fun M f => mt (wD D) (nD D) M f.1 f.2) M
def layM (D : Nat → Nat → Int) (fs : List (Int × Int)) : sM := layF D (mp (D 0 0) (D 0 1)) fs
/-- the folds can be done one after another -/
def fsO (D : Nat → Nat → Int) : sM → List (Int × Int) → Prop
  | _, [] => True
  | M, f :: r => ((0 ≤ f.1 ∧ f.1 ≤ 3) ∧ fOk M f.1 f.2) ∧ fsO D (mt (wD D) (nD D) M f.1 f.2) r
def dO (D : Nat → Nat → Int) : Prop := (1 ≤ D 0 0 ∧ D 0 0 ≤ 8) ∧ 1 ≤ D 0 1 ∧ D 0 1 ≤ 8
theorem fsO_app {D : Nat → Nat → Int} {f : Int × Int} : ∀ (fs : List (Int × Int)) (M : sM), fsO D M fs → ((0 ≤ f.1 ∧ f.1 ≤ 3) ∧ fOk (layF D M fs) f.1 f.2) → fsO D M (fs ++ [f])
  | [], M, _, h => ⟨h, trivial⟩
  | g :: r, M, h, k => ⟨h.1, fsO_app r _ h.2 k⟩
theorem fsO_take {D : Nat → Nat → Int} : ∀ (fs : List (Int × Int)) (k : Nat) (M : sM), fsO D M fs → fsO D M (fs.take k)
  | [], k, M, h => by simpa using h
  | g :: r, 0, M, h => trivial
  | g :: r, k + 1, M, h => ⟨h.1, fsO_take r k _ h.2⟩
theorem layF_app {D : Nat → Nat → Int} {M : sM} {fs : List (Int × Int)} {f : Int × Int} : layF D M (fs ++ [f]) = mt (wD D) (nD D) (layF D M fs) f.1 f.2 := by
  unfold layF
  rw [List.foldl_append]
  rfl
theorem layF_I {D : Nat → Nat → Int} : ∀ (fs : List (Int × Int)) (M : sM), shI (wD D) (nD D) M → fsO D M fs → shI (wD D) (nD D) (layF D M fs) ∧ (layF D M fs).1 4 = M.1 4 + fs.length ∧ (layF D M fs).1 0 = M.1 0 ∧ (layF D M fs).1 1 = M.1 1
  | [], M, h, _ => ⟨h, (Int.add_zero _).symm, rfl, rfl⟩
  | f :: r, M, h, k => by
    have h1 := shI_mt h k.1.1 k.1.2
    have h2 := layF_I r _ h1 k.2
    have e4 : (mt (wD D) (nD D) M f.1 f.2).1 4 = M.1 4 + 1 := rfl
    have e0 : (mt (wD D) (nD D) M f.1 f.2).1 0 = M.1 0 := rfl
    have e1 : (mt (wD D) (nD D) M f.1 f.2).1 1 = M.1 1 := rfl
    rw [e4, e0, e1] at h2
    refine ⟨h2.1, ?_, h2.2.2⟩
    have := h2.2.1
    unfold layF at this ⊢
    rw [List.foldl_cons, this, List.length_cons]
    push_cast
    omega
theorem mpD {D : Nat → Nat → Int} (h : dO D) : shI (wD D) (nD D) (mp (D 0 0) (D 0 1)) := by
  obtain ⟨h0, h1⟩ := h
  have e0 : D 0 0 = ((wD D : Nat) : Int) := by unfold wD; omega
  have e1 : D 0 1 = (((D 0 1).toNat : Nat) : Int) := by omega
  have := shI_mp (W := wD D) (H := (D 0 1).toNat) (by unfold wD; omega) (by omega)
  rw [← e0, ← e1] at this
  exact this
theorem layM_I {D : Nat → Nat → Int} {fs : List (Int × Int)} (h : dO D) (k : fsO D (mp (D 0 0) (D 0 1)) fs) : shI (wD D) (nD D) (layM D fs) ∧ fs.length ≤ 14 ∧ (layM D fs).1 4 = fs.length := by
  have h1 := layF_I fs _ (mpD h) k
  have e4 : (mp (D 0 0) (D 0 1)).1 4 = 0 := rfl
  have e0 : (mp (D 0 0) (D 0 1)).1 0 = D 0 0 := rfl
  have e1 : (mp (D 0 0) (D 0 1)).1 1 = D 0 1 := rfl
  rw [e4, e0, e1] at h1
  have h2 := h1.1.1
  unfold layM
  have h3 := h1.2
  obtain ⟨h01, h02⟩ := h
  refine ⟨h1.1, ?_, by omega⟩
  omega
/-- a State's cells -/
def stR (S : Nat → Nat → Int) (q : Nat) (I : iS) : Prop := (S q 0 = (I.1.length : Nat) ∧ ∀ j, j < I.1.length → S (q + 1) j = (I.1.getD j (0, 0)).1 ∧ S (q + 2) j = (I.1.getD j (0, 0)).2) ∧ (S q 1 = (I.2.1.1 : Nat) ∧ (∀ j, j < 12 → S (q + 4) j = I.2.1.2.1 j) ∧ ∀ j, j < 48 → S (q + 5) j = I.2.1.2.2 j) ∧ ∀ j, j < 3 → S (q + 3) j = I.2.2 j
theorem stR.eq {S S' : Nat → Nat → Int} {q : Nat} {I : iS} (h : stR S q I) (e : ∀ a, q ≤ a → a < q + 6 → S' a = S a) : stR S' q I := by
  unfold stR
  rw [e q (by omega) (by omega), e (q + 1) (by omega) (by omega), e (q + 2) (by omega) (by omega), e (q + 3) (by omega) (by omega), e (q + 4) (by omega) (by omega), e (q + 5) (by omega) (by omega)]
  exact h
theorem getD_app {fs : List (Int × Int)} {f : Int × Int} {j : Nat} : (fs ++ [f]).getD j (0, 0) = if j = fs.length then f else if j < fs.length then fs.getD j (0, 0) else (0, 0) := by
  rw [List.getD_eq_getElem?_getD, List.getD_eq_getElem?_getD]
  by_cases h : j < fs.length
  · rw [List.getElem?_append_left h, if_neg (by omega), if_pos h]
  · rw [List.getElem?_append_right (by omega)]
    by_cases h2 : j = fs.length
    · subst h2
      rw [Nat.sub_self, if_pos rfl]
      rfl
    · rw [if_neg h2, if_neg h]
      obtain ⟨k, hk⟩ : ∃ k, j - fs.length = k + 1 := ⟨j - fs.length - 1, by omega⟩
      rw [hk]
      rfl
/-- the folds are done anew -/
theorem c_layAnew {T : Nat → Nat × Nat} {S : Nat → Nat → Int} {c : pm_M × pm_C} {x s : Nat} {D : Nat → Nat → Int} {I : iS} (l10 : ly10 T x) (hs : S x 3 = s) (l4 : ly4 T s) (hsd : s + 8 ≤ x + 25 ∨ x + 34 ≤ s) (h0 : S s 0 = D 0 0) (h1 : S s 1 = D 0 1) (hD : dO D) (hI : stR S (x + 34) I) (hF : fsO D (mp (D 0 0) (D 0 1)) I.1) :
    ∃ S', px_R 4 131 [.ref x, .retAddr 0] (zh T S c) (.inl none) (zh T S' c) ∧ (∀ a, (a < x + 25 ∨ x + 34 ≤ a) → S' a = S a) ∧ shR S' (x + 25) (nD D) (layM D I.1) := by
  obtain ⟨t0, tL1, tL3, tL6, tL9, tL17, tL25, tL34, tL40, tL46, tL55, tL132, tL145⟩ := id l10
  obtain ⟨u0, u1, u2, u3, u4, u5, u6, u7⟩ := id l4
  have tsh : T (x + 25) = (8, 0) := tL25.1
  obtain ⟨v0, v1, v2, v3, v4, v5⟩ := id tL34
  have e3 : (S x 3).toNat = s := by omega
  have hD0 := hD
  obtain ⟨d0, d1⟩ := hD
  obtain ⟨W, hW⟩ : ∃ W : Nat, D 0 0 = W := ⟨(D 0 0).toNat, by omega⟩
  obtain ⟨H, hH⟩ : ∃ H : Nat, D 0 1 = H := ⟨(D 0 1).toNat, by omega⟩
  have hn : nD D = H * W := by unfold nD; rw [hW, hH]; rfl
  have hlen := (layM_I hD0 hF).2.1
  obtain ⟨S1, r1, f1, q1⟩ := s_layPlain (T := T) (S := S) (c := c) (q := x + 25) (W := W) (H := H) tL25 (by omega) (by omega)
  rw [← hn, ← hW, ← hH] at q1
  obtain ⟨⟨i0, ij⟩, -⟩ := hI
  obtain ⟨v, S', hr, rfl, h⟩ : zR 4 131 [.ref x, .retAddr 0] T S c (fun v S' => v = none ∧ (∀ a, (a < x + 25 ∨ x + 34 ≤ a) → S' a = S a) ∧ shR S' (x + 25) (nD D) (layM D I.1)) := by
    refine zR_of ?_
    generalize hQf : zQ T c (fun v S' => v = none ∧ (∀ a, (a < x + 25 ∨ x + 34 ≤ a) → S' a = S a) ∧ shR S' (x + 25) (nD D) (layM D I.1)) = Qf
    have loop : ∀ (r pre : List (Int × Int)) (S2 : Nat → Nat → Int) (M : sM), pre ++ r = I.1 → (∀ a, (a < x + 25 ∨ x + 34 ≤ a) → S2 a = S a) → shR S2 (x + 25) (nD D) M → shI (wD D) (nD D) M → fsO D M r → layF D M r = layM D I.1 →
        px_Ev 4 131 23 [.ref x, .int (zI pre.length)] [] (zh T S2 c) Qf := by
      intro r
      induction r with
      | nil =>
        intro pre S2 M hp f2 q2 i2 o2 he
        rw [List.append_nil] at hp
        have he' : M = layM D I.1 := he
        rw [he'] at q2
        have fq := zQ_in (T := T) (c := c) (P := fun v S' => v = none ∧ (∀ a, (a < x + 25 ∨ x + 34 ≤ a) → S' a = S a) ∧ shR S' (x + 25) (nD D) (layM D I.1)) (v := none) (S' := S2) ⟨rfl, f2, q2⟩
        rw [hQf] at fq
        have e0 : S2 (x + 34) 0 = (pre.length : Nat) := by rw [f2 _ (by omega), i0, hp]
        have e9 : pre.length ≤ 14 := by rw [hp]; exact hlen
        rw [el_X10_layAnew_23]; repeat' (first | (simp (disch := first | with_reducible assumption | omega | decide | (simp only [ps_low, List.map_cons, List.map_nil, Value.category, List.sum_cons, List.sum_nil]; decide)) only [el_X10_layAnew_0, el_X10_layAnew_1, el_X10_layAnew_4, el_X10_layAnew_5, el_X10_layAnew_8, el_X10_layAnew_11, el_X10_layAnew_12, el_X10_layAnew_15, el_X10_layAnew_21, el_X10_layAnew_22, el_X10_layAnew_24, el_X10_layAnew_25, el_X10_layAnew_28, el_X10_layAnew_31, el_X10_layAnew_34, el_X10_layAnew_35, el_X10_layAnew_37, el_X10_layAnew_40, el_X10_layAnew_41, el_X10_layAnew_44, el_X10_layAnew_45, el_X10_layAnew_48, el_X10_layAnew_51, el_X10_layAnew_52, el_X10_layAnew_53, el_X10_layAnew_54, el_X10_layAnew_57, el_X10_layAnew_60, el_X10_layAnew_61, el_X10_layAnew_65, el_X10_layAnew_66, el_X10_layAnew_69, el_X10_layAnew_72, gf_10_3, gf_10_5, gf_10_6, gf_4_0, gf_4_1, gf_8_0, gf_8_2, gf_8_3, px_ifp, px_ifn, zh_1, zc_1, zc_2, zc_3, zc_4, zc_5, zc_6, zc_7, zc_8, zc_9, zc_10, zc_11, zc_12, zc_20, zc_21, zc_22, zp_1, zp_2, zp_3, zp_4, zp_5, zp_6, zp_7, zp_8, zp_9, zp_10, zp_11, zp_12, zp_20, zp_21, zp_22, upS_eq, upS_ne, upS_up, upz_eq, upz_ne, upz_up, px_al_aI, px_as_aI, px_as_aZ, px_as_aC, px_ln_aI, Option.toList, List.cons_append, List.nil_append, Int.reduceAdd, Int.reduceSub, Int.reduceMul, ↓reduceIte, Nat.reduceEqDiff, eq_self, Int.reduceEq, Int.reduceLT, Int.reduceLE, Int.reduceNe, Int.reduceNeg, Int.reduceToNat, ne_eq, not_true_eq_false, not_false_eq_true, t0, u0, u1, u2, u3, u4, u5, u6, u7, v0, v1, v2, v3, v4, v5, e0]; repeat (first | simp (disch := first | omega | decide) only [upz_srt, upy_upz, upz_up, upS_srt, upT_upS, upS_up] | simp (disch := first | with_reducible assumption | omega | decide | (simp only [ps_low, List.map_cons, List.map_nil, Value.category, List.sum_cons, List.sum_nil]; decide)) only [el_X10_layAnew_0, el_X10_layAnew_1, el_X10_layAnew_4, el_X10_layAnew_5, el_X10_layAnew_8, el_X10_layAnew_11, el_X10_layAnew_12, el_X10_layAnew_15, el_X10_layAnew_21, el_X10_layAnew_22, el_X10_layAnew_24, el_X10_layAnew_25, el_X10_layAnew_28, el_X10_layAnew_31, el_X10_layAnew_34, el_X10_layAnew_35, el_X10_layAnew_37, el_X10_layAnew_40, el_X10_layAnew_41, el_X10_layAnew_44, el_X10_layAnew_45, el_X10_layAnew_48, el_X10_layAnew_51, el_X10_layAnew_52, el_X10_layAnew_53, el_X10_layAnew_54, el_X10_layAnew_57, el_X10_layAnew_60, el_X10_layAnew_61, el_X10_layAnew_65, el_X10_layAnew_66, el_X10_layAnew_69, el_X10_layAnew_72, gf_10_3, gf_10_5, gf_10_6, gf_4_0, gf_4_1, gf_8_0, gf_8_2, gf_8_3, px_ifp, px_ifn, zh_1, zc_1, zc_2, zc_3, zc_4, zc_5, zc_6, zc_7, zc_8, zc_9, zc_10, zc_11, zc_12, zc_20, zc_21, zc_22, zp_1, zp_2, zp_3, zp_4, zp_5, zp_6, zp_7, zp_8, zp_9, zp_10, zp_11, zp_12, zp_20, zp_21, zp_22, upS_eq, upS_ne, upS_up, upz_eq, upz_ne, upz_up, px_al_aI, px_as_aI, px_as_aZ, px_as_aC, px_ln_aI, Option.toList, List.cons_append, List.nil_append, Int.reduceAdd, Int.reduceSub, Int.reduceMul, ↓reduceIte, Nat.reduceEqDiff, eq_self, Int.reduceEq, Int.reduceLT, Int.reduceLE, Int.reduceNe, Int.reduceNeg, Int.reduceToNat, ne_eq, not_true_eq_false, not_false_eq_true, t0, u0, u1, u2, u3, u4, u5, u6, u7, v0, v1, v2, v3, v4, v5, e0])) | simp (disch := first | omega | decide) only [upz_srt, upy_upz, upz_up, upS_srt, upT_upS, upS_up] | with_reducible refine px_ite (fun _ => ?_) (fun _ => ?_))
        exact fq
      | cons f r ih =>
        intro pre S2 M hp f2 q2 i2 o2 he
        have hl : pre.length < I.1.length := by rw [← hp, List.length_append, List.length_cons]; omega
        have e0 : S2 (x + 34) 0 = (I.1.length : Nat) := by rw [f2 _ (by omega), i0]
        have ef := ij pre.length hl
        have eg : I.1.getD pre.length (0, 0) = f := by
          rw [← hp, List.getD_eq_getElem?_getD, List.getElem?_append_right (by omega), Nat.sub_self]
          rfl
        rw [eg] at ef
        have es : S2 (x + 34 + 1) pre.length = f.1 := by rw [f2 _ (by omega)]; exact ef.1
        have en : S2 (x + 34 + 2) pre.length = f.2 := by rw [f2 _ (by omega)]; exact ef.2
        have ob := o2.1.2
        have om : 1 ≤ f.2 ∧ f.2 ≤ 8 := by
          have g2 := i2.1.2.2.1
          have g3 := i2.1.2.2.2.1
          unfold fOk at ob
          split at ob <;> omega
        obtain ⟨v, S3, r3, f3, hv⟩ := s_turnOver (T := T) (S := S2) (c := c) (q := x + 25) (sd := f.1) (m := f.2) tL25 q2 i2 o2.1.1 (by omega)
        rcases hv with ⟨-, rfl, q3⟩ | ⟨hno, -, -⟩
        · have nx := ih (pre ++ [f]) S3 _ (by rw [List.append_assoc]; exact hp) (fun a h => by rw [f3 a (by omega)]; exact f2 a h) q3 (shI_mt i2 o2.1.1 o2.1.2) o2.2 he
          rw [List.length_append, List.length_cons, List.length_nil] at nx
          have ec : ((pre.length + (0 + 1) : Nat) : Int) = (pre.length : Int) + 1 := rfl
          rw [ec] at nx
          rw [el_X10_layAnew_23]; repeat' (first | (simp (disch := first | with_reducible assumption | omega | decide | (simp only [ps_low, List.map_cons, List.map_nil, Value.category, List.sum_cons, List.sum_nil]; decide)) only [el_X10_layAnew_0, el_X10_layAnew_1, el_X10_layAnew_4, el_X10_layAnew_5, el_X10_layAnew_8, el_X10_layAnew_11, el_X10_layAnew_12, el_X10_layAnew_15, el_X10_layAnew_21, el_X10_layAnew_22, el_X10_layAnew_24, el_X10_layAnew_25, el_X10_layAnew_28, el_X10_layAnew_31, el_X10_layAnew_34, el_X10_layAnew_35, el_X10_layAnew_37, el_X10_layAnew_40, el_X10_layAnew_41, el_X10_layAnew_44, el_X10_layAnew_45, el_X10_layAnew_48, el_X10_layAnew_51, el_X10_layAnew_52, el_X10_layAnew_53, el_X10_layAnew_54, el_X10_layAnew_57, el_X10_layAnew_60, el_X10_layAnew_61, el_X10_layAnew_65, el_X10_layAnew_66, el_X10_layAnew_69, el_X10_layAnew_72, gf_10_3, gf_10_5, gf_10_6, gf_4_0, gf_4_1, gf_8_0, gf_8_2, gf_8_3, px_ifp, px_ifn, zh_1, zc_1, zc_2, zc_3, zc_4, zc_5, zc_6, zc_7, zc_8, zc_9, zc_10, zc_11, zc_12, zc_20, zc_21, zc_22, zp_1, zp_2, zp_3, zp_4, zp_5, zp_6, zp_7, zp_8, zp_9, zp_10, zp_11, zp_12, zp_20, zp_21, zp_22, upS_eq, upS_ne, upS_up, upz_eq, upz_ne, upz_up, px_al_aI, px_as_aI, px_as_aZ, px_as_aC, px_ln_aI, Option.toList, List.cons_append, List.nil_append, Int.reduceAdd, Int.reduceSub, Int.reduceMul, ↓reduceIte, Nat.reduceEqDiff, eq_self, Int.reduceEq, Int.reduceLT, Int.reduceLE, Int.reduceNe, Int.reduceNeg, Int.reduceToNat, ne_eq, not_true_eq_false, not_false_eq_true, t0, u0, u1, u2, u3, u4, u5, u6, u7, v0, v1, v2, v3, v4, v5, e0, es, en, tsh, Int.toNat_natCast, el_X10_layAnew_62 (r3 ..) _ (zo_8 _) _]; repeat (first | simp (disch := first | omega | decide) only [upz_srt, upy_upz, upz_up, upS_srt, upT_upS, upS_up] | simp (disch := first | with_reducible assumption | omega | decide | (simp only [ps_low, List.map_cons, List.map_nil, Value.category, List.sum_cons, List.sum_nil]; decide)) only [el_X10_layAnew_0, el_X10_layAnew_1, el_X10_layAnew_4, el_X10_layAnew_5, el_X10_layAnew_8, el_X10_layAnew_11, el_X10_layAnew_12, el_X10_layAnew_15, el_X10_layAnew_21, el_X10_layAnew_22, el_X10_layAnew_24, el_X10_layAnew_25, el_X10_layAnew_28, el_X10_layAnew_31, el_X10_layAnew_34, el_X10_layAnew_35, el_X10_layAnew_37, el_X10_layAnew_40, el_X10_layAnew_41, el_X10_layAnew_44, el_X10_layAnew_45, el_X10_layAnew_48, el_X10_layAnew_51, el_X10_layAnew_52, el_X10_layAnew_53, el_X10_layAnew_54, el_X10_layAnew_57, el_X10_layAnew_60, el_X10_layAnew_61, el_X10_layAnew_65, el_X10_layAnew_66, el_X10_layAnew_69, el_X10_layAnew_72, gf_10_3, gf_10_5, gf_10_6, gf_4_0, gf_4_1, gf_8_0, gf_8_2, gf_8_3, px_ifp, px_ifn, zh_1, zc_1, zc_2, zc_3, zc_4, zc_5, zc_6, zc_7, zc_8, zc_9, zc_10, zc_11, zc_12, zc_20, zc_21, zc_22, zp_1, zp_2, zp_3, zp_4, zp_5, zp_6, zp_7, zp_8, zp_9, zp_10, zp_11, zp_12, zp_20, zp_21, zp_22, upS_eq, upS_ne, upS_up, upz_eq, upz_ne, upz_up, px_al_aI, px_as_aI, px_as_aZ, px_as_aC, px_ln_aI, Option.toList, List.cons_append, List.nil_append, Int.reduceAdd, Int.reduceSub, Int.reduceMul, ↓reduceIte, Nat.reduceEqDiff, eq_self, Int.reduceEq, Int.reduceLT, Int.reduceLE, Int.reduceNe, Int.reduceNeg, Int.reduceToNat, ne_eq, not_true_eq_false, not_false_eq_true, t0, u0, u1, u2, u3, u4, u5, u6, u7, v0, v1, v2, v3, v4, v5, e0, es, en, tsh, Int.toNat_natCast, el_X10_layAnew_62 (r3 ..) _ (zo_8 _) _])) | simp (disch := first | omega | decide) only [upz_srt, upy_upz, upz_up, upS_srt, upT_upS, upS_up] | with_reducible refine px_ite (fun _ => ?_) (fun _ => ?_))
          exact nx
        · exact absurd o2.1.2 hno
    have l0 := loop I.1 [] S1 (mp (D 0 0) (D 0 1)) rfl (fun a h => f1 a (by omega)) q1 (mpD hD0) hF rfl
    have e0 : ((([] : List (Int × Int)).length : Nat) : Int) = 0 := rfl
    rw [e0] at l0
    have h0' : S s 0 = (W : Int) := by rw [h0]; exact hW
    have h1' : S s 1 = (H : Int) := by rw [h1]; exact hH
    (simp (disch := first | with_reducible assumption | omega | decide | (simp only [ps_low, List.map_cons, List.map_nil, Value.category, List.sum_cons, List.sum_nil]; decide)) only [el_X10_layAnew_0, el_X10_layAnew_1, el_X10_layAnew_4, el_X10_layAnew_5, el_X10_layAnew_8, el_X10_layAnew_11, el_X10_layAnew_12, el_X10_layAnew_15, el_X10_layAnew_21, el_X10_layAnew_22, el_X10_layAnew_24, el_X10_layAnew_25, el_X10_layAnew_28, el_X10_layAnew_31, el_X10_layAnew_34, el_X10_layAnew_35, el_X10_layAnew_37, el_X10_layAnew_40, el_X10_layAnew_41, el_X10_layAnew_44, el_X10_layAnew_45, el_X10_layAnew_48, el_X10_layAnew_51, el_X10_layAnew_52, el_X10_layAnew_53, el_X10_layAnew_54, el_X10_layAnew_57, el_X10_layAnew_60, el_X10_layAnew_61, el_X10_layAnew_65, el_X10_layAnew_66, el_X10_layAnew_69, el_X10_layAnew_72, gf_10_3, gf_10_5, gf_10_6, gf_4_0, gf_4_1, gf_8_0, gf_8_2, gf_8_3, px_ifp, px_ifn, zh_1, zc_1, zc_2, zc_3, zc_4, zc_5, zc_6, zc_7, zc_8, zc_9, zc_10, zc_11, zc_12, zc_20, zc_21, zc_22, zp_1, zp_2, zp_3, zp_4, zp_5, zp_6, zp_7, zp_8, zp_9, zp_10, zp_11, zp_12, zp_20, zp_21, zp_22, upS_eq, upS_ne, upS_up, upz_eq, upz_ne, upz_up, px_al_aI, px_as_aI, px_as_aZ, px_as_aC, px_ln_aI, Option.toList, List.cons_append, List.nil_append, Int.reduceAdd, Int.reduceSub, Int.reduceMul, ↓reduceIte, Nat.reduceEqDiff, eq_self, Int.reduceEq, Int.reduceLT, Int.reduceLE, Int.reduceNe, Int.reduceNeg, Int.reduceToNat, ne_eq, not_true_eq_false, not_false_eq_true, t0, u0, u1, u2, u3, u4, u5, u6, u7, v0, v1, v2, v3, v4, v5, e3, h0', h1', tsh, el_X10_layAnew_18 (r1 ..) _ (zo_8 _) _]; repeat (first | simp (disch := first | omega | decide) only [upz_srt, upy_upz, upz_up, upS_srt, upT_upS, upS_up] | simp (disch := first | with_reducible assumption | omega | decide | (simp only [ps_low, List.map_cons, List.map_nil, Value.category, List.sum_cons, List.sum_nil]; decide)) only [el_X10_layAnew_0, el_X10_layAnew_1, el_X10_layAnew_4, el_X10_layAnew_5, el_X10_layAnew_8, el_X10_layAnew_11, el_X10_layAnew_12, el_X10_layAnew_15, el_X10_layAnew_21, el_X10_layAnew_22, el_X10_layAnew_24, el_X10_layAnew_25, el_X10_layAnew_28, el_X10_layAnew_31, el_X10_layAnew_34, el_X10_layAnew_35, el_X10_layAnew_37, el_X10_layAnew_40, el_X10_layAnew_41, el_X10_layAnew_44, el_X10_layAnew_45, el_X10_layAnew_48, el_X10_layAnew_51, el_X10_layAnew_52, el_X10_layAnew_53, el_X10_layAnew_54, el_X10_layAnew_57, el_X10_layAnew_60, el_X10_layAnew_61, el_X10_layAnew_65, el_X10_layAnew_66, el_X10_layAnew_69, el_X10_layAnew_72, gf_10_3, gf_10_5, gf_10_6, gf_4_0, gf_4_1, gf_8_0, gf_8_2, gf_8_3, px_ifp, px_ifn, zh_1, zc_1, zc_2, zc_3, zc_4, zc_5, zc_6, zc_7, zc_8, zc_9, zc_10, zc_11, zc_12, zc_20, zc_21, zc_22, zp_1, zp_2, zp_3, zp_4, zp_5, zp_6, zp_7, zp_8, zp_9, zp_10, zp_11, zp_12, zp_20, zp_21, zp_22, upS_eq, upS_ne, upS_up, upz_eq, upz_ne, upz_up, px_al_aI, px_as_aI, px_as_aZ, px_as_aC, px_ln_aI, Option.toList, List.cons_append, List.nil_append, Int.reduceAdd, Int.reduceSub, Int.reduceMul, ↓reduceIte, Nat.reduceEqDiff, eq_self, Int.reduceEq, Int.reduceLT, Int.reduceLE, Int.reduceNe, Int.reduceNeg, Int.reduceToNat, ne_eq, not_true_eq_false, not_false_eq_true, t0, u0, u1, u2, u3, u4, u5, u6, u7, v0, v1, v2, v3, v4, v5, e3, h0', h1', tsh, el_X10_layAnew_18 (r1 ..) _ (zo_8 _) _]))
    exact l0
  exact ⟨S', hr, h⟩
/-- a fold now: done, or counted as refused -/
def upI (I : iS) (k : Nat) : iS := (I.1, I.2.1, upz I.2.2 k (I.2.2 k + 1))
theorem c_foldNow {T : Nat → Nat × Nat} {S : Nat → Nat → Int} {c : pm_M × pm_C} {x : Nat} {D : Nat → Nat → Int} {I : iS} {sd m : Int} (l10 : ly10 T x) (hD : dO D) (hI : stR S (x + 34) I) (hF : fsO D (mp (D 0 0) (D 0 1)) I.1) (hM : shR S (x + 25) (nD D) (layM D I.1)) (hsd : 0 ≤ sd ∧ sd ≤ 3) (hm : -2147483648 ≤ m ∧ m ≤ 2147483647) (hst : ∀ j, j < 3 → 0 ≤ I.2.2 j ∧ I.2.2 j ≤ 100000) :
    ∃ (v : Int) (S' : Nat → Nat → Int), px_R 4 130 [.ref x, .int (zI sd), .int (zI m)] (zh T S c) (.inl (some (.int (zI v)))) (zh T S' c) ∧ (∀ a, (a < x + 25 ∨ x + 40 ≤ a) → S' a = S a) ∧
      ((fOk (layM D I.1) sd m ∧ v = 1 ∧ stR S' (x + 34) (I.1 ++ [(sd, m)], I.2) ∧ shR S' (x + 25) (nD D) (layM D (I.1 ++ [(sd, m)]))) ∨ (¬ fOk (layM D I.1) sd m ∧ v = 0 ∧ stR S' (x + 34) (upI I 1) ∧ shR S' (x + 25) (nD D) (layM D I.1))) := by
  obtain ⟨t0, tL1, tL3, tL6, tL9, tL17, tL25, tL34, tL40, tL46, tL55, tL132, tL145⟩ := id l10
  obtain ⟨v0, v1, v2, v3, v4, v5⟩ := id tL34
  have tsh : T (x + 25) = (8, 0) := tL25.1
  obtain ⟨iS', hlen, h4⟩ := layM_I hD hF
  have hI0 := hI
  obtain ⟨⟨i0, ij⟩, ⟨j0, j1, j2⟩, k0⟩ := hI
  have st1 := hst 1 (by decide)
  have k1 := k0 1 (by decide)
  have refuse : ∀ S2 : Nat → Nat → Int, (∀ a, (a < x + 25 ∨ x + 34 ≤ a) → S2 a = S a) → stR (upS S2 (x + 37) (upz (S2 (x + 37)) 1 (I.2.2 1 + 1))) (x + 34) (upI I 1) := by
    intro S2 f2
    refine ⟨⟨?_, fun j hj => ?_⟩, ⟨?_, fun j hj => ?_, fun j hj => ?_⟩, fun j hj => ?_⟩
    · rw [upS_ne (by omega), f2 _ (by omega)]
      exact i0
    · rw [upS_ne (by omega), upS_ne (by omega), f2 _ (by omega), f2 _ (by omega)]
      exact ij j hj
    · rw [upS_ne (by omega), f2 _ (by omega)]
      exact j0
    · rw [upS_ne (by omega), f2 _ (by omega)]
      exact j1 j hj
    · rw [upS_ne (by omega), f2 _ (by omega)]
      exact j2 j hj
    · rw [show x + 34 + 3 = x + 37 from rfl, upS_eq, f2 _ (by omega)]
      change upz (S (x + 37)) 1 (I.2.2 1 + 1) j = upz I.2.2 1 (I.2.2 1 + 1) j
      unfold upz
      split
      · rfl
      · exact k0 j hj
  by_cases h14 : 14 ≤ I.1.length
  · have hno : ¬ fOk (layM D I.1) sd m := by
      intro h
      have g := iS'.1
      obtain ⟨m1, m2⟩ := h
      have e0 : (layM D I.1).1 0 = D 0 0 := (layF_I I.1 _ (mpD hD) hF).2.2.1
      have e1 : (layM D I.1).1 1 = D 0 1 := (layF_I I.1 _ (mpD hD) hF).2.2.2
      obtain ⟨d0, d1⟩ := hD
      split at m2 <;> omega
    refine ⟨0, upS S (x + 37) (upz (S (x + 37)) 1 (I.2.2 1 + 1)), px_ofQ fun Q hQ => ?_, fun a h => upS_ne (by omega), .inr ⟨hno, rfl, refuse S (fun a _ => rfl), hM.eq (fun a h1 h2 => upS_ne (by omega))⟩⟩
    have k1' : S (x + 34 + 3) 1 = I.2.2 1 := k1
    have ex : x + 34 + 3 = x + 37 := rfl
    (simp (disch := first | with_reducible assumption | omega | decide | (simp only [ps_low, List.map_cons, List.map_nil, Value.category, List.sum_cons, List.sum_nil]; decide)) only [el_X10_foldNow_0, el_X10_foldNow_1, el_X10_foldNow_4, el_X10_foldNow_7, el_X10_foldNow_9, el_X10_foldNow_12, el_X10_foldNow_13, el_X10_foldNow_16, el_X10_foldNow_17, el_X10_foldNow_21, el_X10_foldNow_24, el_X10_foldNow_25, el_X10_foldNow_28, el_X10_foldNow_31, el_X10_foldNow_32, el_X10_foldNow_33, el_X10_foldNow_34, el_X10_foldNow_35, el_X10_foldNow_36, el_X10_foldNow_37, el_X10_foldNow_38, el_X10_foldNow_39, el_X10_foldNow_40, el_X10_foldNow_43, el_X10_foldNow_44, el_X10_foldNow_48, el_X10_foldNow_49, gf_10_5, gf_10_6, gf_8_0, gf_8_4, px_ifp, px_ifn, zh_1, zc_1, zc_2, zc_3, zc_4, zc_5, zc_6, zc_7, zc_8, zc_9, zc_10, zc_11, zc_12, zc_20, zc_21, zc_22, zp_1, zp_2, zp_3, zp_4, zp_5, zp_6, zp_7, zp_8, zp_9, zp_10, zp_11, zp_12, zp_20, zp_21, zp_22, upS_eq, upS_ne, upS_up, upz_eq, upz_ne, upz_up, px_al_aI, px_as_aI, px_as_aZ, px_as_aC, px_ln_aI, Option.toList, List.cons_append, List.nil_append, Int.reduceAdd, Int.reduceSub, Int.reduceMul, ↓reduceIte, Nat.reduceEqDiff, eq_self, Int.reduceEq, Int.reduceLT, Int.reduceLE, Int.reduceNe, Int.reduceNeg, Int.reduceToNat, ne_eq, not_true_eq_false, not_false_eq_true, t0, v0, v1, v2, v3, v4, v5, i0, k1']; repeat (first | simp (disch := first | omega | decide) only [upz_srt, upy_upz, upz_up, upS_srt, upT_upS, upS_up] | simp (disch := first | with_reducible assumption | omega | decide | (simp only [ps_low, List.map_cons, List.map_nil, Value.category, List.sum_cons, List.sum_nil]; decide)) only [el_X10_foldNow_0, el_X10_foldNow_1, el_X10_foldNow_4, el_X10_foldNow_7, el_X10_foldNow_9, el_X10_foldNow_12, el_X10_foldNow_13, el_X10_foldNow_16, el_X10_foldNow_17, el_X10_foldNow_21, el_X10_foldNow_24, el_X10_foldNow_25, el_X10_foldNow_28, el_X10_foldNow_31, el_X10_foldNow_32, el_X10_foldNow_33, el_X10_foldNow_34, el_X10_foldNow_35, el_X10_foldNow_36, el_X10_foldNow_37, el_X10_foldNow_38, el_X10_foldNow_39, el_X10_foldNow_40, el_X10_foldNow_43, el_X10_foldNow_44, el_X10_foldNow_48, el_X10_foldNow_49, gf_10_5, gf_10_6, gf_8_0, gf_8_4, px_ifp, px_ifn, zh_1, zc_1, zc_2, zc_3, zc_4, zc_5, zc_6, zc_7, zc_8, zc_9, zc_10, zc_11, zc_12, zc_20, zc_21, zc_22, zp_1, zp_2, zp_3, zp_4, zp_5, zp_6, zp_7, zp_8, zp_9, zp_10, zp_11, zp_12, zp_20, zp_21, zp_22, upS_eq, upS_ne, upS_up, upz_eq, upz_ne, upz_up, px_al_aI, px_as_aI, px_as_aZ, px_as_aC, px_ln_aI, Option.toList, List.cons_append, List.nil_append, Int.reduceAdd, Int.reduceSub, Int.reduceMul, ↓reduceIte, Nat.reduceEqDiff, eq_self, Int.reduceEq, Int.reduceLT, Int.reduceLE, Int.reduceNe, Int.reduceNeg, Int.reduceToNat, ne_eq, not_true_eq_false, not_false_eq_true, t0, v0, v1, v2, v3, v4, v5, i0, k1']))
    exact hQ
  · obtain ⟨v, S2, r2, f2, hv⟩ := s_turnOver (T := T) (S := S) (c := c) (q := x + 25) (sd := sd) (m := m) tL25 hM iS' hsd hm
    rcases hv with ⟨hf, rfl, q2⟩ | ⟨hf, rfl, e2⟩
    · have hA := c_addFold (T := T) (S := S2) (c := c) (q := x + 34) (x := sd) (y := m) tL34 (by rw [f2 _ (by omega), i0]; omega)
      rw [f2 (x + 34) (by omega), f2 (x + 34 + 1) (by omega), f2 (x + 34 + 2) (by omega), i0] at hA
      generalize hS3 : upS (upS (upS S2 (x + 34) (upz (S (x + 34)) 0 ((I.1.length : Int) + 1))) (x + 34 + 1) (upz (S (x + 34 + 1)) ((I.1.length : Int)).toNat sd)) (x + 34 + 2) (upz (S (x + 34 + 2)) ((I.1.length : Int)).toNat m) = S3 at hA
      have s3 : ∀ a, (a < x + 34 ∨ x + 37 ≤ a) → S3 a = S2 a := fun a h => by rw [← hS3, upS_ne (by omega), upS_ne (by omega), upS_ne (by omega)]
      have el : layM D (I.1 ++ [(sd, m)]) = mt (wD D) (nD D) (layM D I.1) sd m := layF_app
      refine ⟨1, S3, px_ofQ fun Q hQ => ?_, fun a h => by rw [s3 a (by omega), f2 a (by omega)], .inl ⟨hf, rfl, ⟨⟨?_, fun j hj => ?_⟩, ⟨?_, fun j hj => ?_, fun j hj => ?_⟩, fun j hj => ?_⟩, ?_⟩⟩
      · (simp (disch := first | with_reducible assumption | omega | decide | (simp only [ps_low, List.map_cons, List.map_nil, Value.category, List.sum_cons, List.sum_nil]; decide)) only [el_X10_foldNow_0, el_X10_foldNow_1, el_X10_foldNow_4, el_X10_foldNow_7, el_X10_foldNow_9, el_X10_foldNow_12, el_X10_foldNow_13, el_X10_foldNow_16, el_X10_foldNow_17, el_X10_foldNow_21, el_X10_foldNow_24, el_X10_foldNow_25, el_X10_foldNow_28, el_X10_foldNow_31, el_X10_foldNow_32, el_X10_foldNow_33, el_X10_foldNow_34, el_X10_foldNow_35, el_X10_foldNow_36, el_X10_foldNow_37, el_X10_foldNow_38, el_X10_foldNow_39, el_X10_foldNow_40, el_X10_foldNow_43, el_X10_foldNow_44, el_X10_foldNow_48, el_X10_foldNow_49, gf_10_5, gf_10_6, gf_8_0, gf_8_4, px_ifp, px_ifn, zh_1, zc_1, zc_2, zc_3, zc_4, zc_5, zc_6, zc_7, zc_8, zc_9, zc_10, zc_11, zc_12, zc_20, zc_21, zc_22, zp_1, zp_2, zp_3, zp_4, zp_5, zp_6, zp_7, zp_8, zp_9, zp_10, zp_11, zp_12, zp_20, zp_21, zp_22, upS_eq, upS_ne, upS_up, upz_eq, upz_ne, upz_up, px_al_aI, px_as_aI, px_as_aZ, px_as_aC, px_ln_aI, Option.toList, List.cons_append, List.nil_append, Int.reduceAdd, Int.reduceSub, Int.reduceMul, ↓reduceIte, Nat.reduceEqDiff, eq_self, Int.reduceEq, Int.reduceLT, Int.reduceLE, Int.reduceNe, Int.reduceNeg, Int.reduceToNat, ne_eq, not_true_eq_false, not_false_eq_true, t0, v0, v1, v2, v3, v4, v5, i0, tsh, el_X10_foldNow_18 (r2 ..) _ (zo_8 _) _, el_X10_foldNow_45 (hA ..) _ (zo_9 _) _]; repeat (first | simp (disch := first | omega | decide) only [upz_srt, upy_upz, upz_up, upS_srt, upT_upS, upS_up] | simp (disch := first | with_reducible assumption | omega | decide | (simp only [ps_low, List.map_cons, List.map_nil, Value.category, List.sum_cons, List.sum_nil]; decide)) only [el_X10_foldNow_0, el_X10_foldNow_1, el_X10_foldNow_4, el_X10_foldNow_7, el_X10_foldNow_9, el_X10_foldNow_12, el_X10_foldNow_13, el_X10_foldNow_16, el_X10_foldNow_17, el_X10_foldNow_21, el_X10_foldNow_24, el_X10_foldNow_25, el_X10_foldNow_28, el_X10_foldNow_31, el_X10_foldNow_32, el_X10_foldNow_33, el_X10_foldNow_34, el_X10_foldNow_35, el_X10_foldNow_36, el_X10_foldNow_37, el_X10_foldNow_38, el_X10_foldNow_39, el_X10_foldNow_40, el_X10_foldNow_43, el_X10_foldNow_44, el_X10_foldNow_48, el_X10_foldNow_49, gf_10_5, gf_10_6, gf_8_0, gf_8_4, px_ifp, px_ifn, zh_1, zc_1, zc_2, zc_3, zc_4, zc_5, zc_6, zc_7, zc_8, zc_9, zc_10, zc_11, zc_12, zc_20, zc_21, zc_22, zp_1, zp_2, zp_3, zp_4, zp_5, zp_6, zp_7, zp_8, zp_9, zp_10, zp_11, zp_12, zp_20, zp_21, zp_22, upS_eq, upS_ne, upS_up, upz_eq, upz_ne, upz_up, px_al_aI, px_as_aI, px_as_aZ, px_as_aC, px_ln_aI, Option.toList, List.cons_append, List.nil_append, Int.reduceAdd, Int.reduceSub, Int.reduceMul, ↓reduceIte, Nat.reduceEqDiff, eq_self, Int.reduceEq, Int.reduceLT, Int.reduceLE, Int.reduceNe, Int.reduceNeg, Int.reduceToNat, ne_eq, not_true_eq_false, not_false_eq_true, t0, v0, v1, v2, v3, v4, v5, i0, tsh, el_X10_foldNow_18 (r2 ..) _ (zo_8 _) _, el_X10_foldNow_45 (hA ..) _ (zo_9 _) _]))
        exact hQ
      · rw [← hS3, upS_ne (by omega), upS_ne (by omega), upS_eq, upz_eq, List.length_append]
        rfl
      · rw [getD_app]
        replace hj : j < (I.1 ++ [(sd, m)]).length := hj
        rw [List.length_append, List.length_cons, List.length_nil] at hj
        rw [← hS3, upS_ne (by omega), upS_eq, upS_eq, Int.toNat_natCast]
        by_cases hjl : j = I.1.length
        · subst hjl
          rw [upz_eq, upz_eq, if_pos rfl]
          exact ⟨rfl, rfl⟩
        · rw [upz_ne hjl, upz_ne hjl, if_neg hjl, if_pos (by omega)]
          exact ij j (by omega)
      · rw [← hS3, upS_ne (by omega), upS_ne (by omega), upS_eq]
        exact j0
      · rw [s3 _ (by omega), f2 _ (by omega)]
        exact j1 j hj
      · rw [s3 _ (by omega), f2 _ (by omega)]
        exact j2 j hj
      · rw [s3 _ (by omega), f2 _ (by omega)]
        exact k0 j hj
      · rw [el]
        exact q2.eq (fun a h1 h2 => s3 a (by omega))
    · subst e2
      refine ⟨0, upS S2 (x + 37) (upz (S2 (x + 37)) 1 (I.2.2 1 + 1)), px_ofQ fun Q hQ => ?_, fun a h => upS_ne (by omega), .inr ⟨hf, rfl, refuse S2 (fun a _ => rfl), hM.eq (fun a h1 h2 => upS_ne (by omega))⟩⟩
      have k1' : S2 (x + 34 + 3) 1 = I.2.2 1 := k1
      (simp (disch := first | with_reducible assumption | omega | decide | (simp only [ps_low, List.map_cons, List.map_nil, Value.category, List.sum_cons, List.sum_nil]; decide)) only [el_X10_foldNow_0, el_X10_foldNow_1, el_X10_foldNow_4, el_X10_foldNow_7, el_X10_foldNow_9, el_X10_foldNow_12, el_X10_foldNow_13, el_X10_foldNow_16, el_X10_foldNow_17, el_X10_foldNow_21, el_X10_foldNow_24, el_X10_foldNow_25, el_X10_foldNow_28, el_X10_foldNow_31, el_X10_foldNow_32, el_X10_foldNow_33, el_X10_foldNow_34, el_X10_foldNow_35, el_X10_foldNow_36, el_X10_foldNow_37, el_X10_foldNow_38, el_X10_foldNow_39, el_X10_foldNow_40, el_X10_foldNow_43, el_X10_foldNow_44, el_X10_foldNow_48, el_X10_foldNow_49, gf_10_5, gf_10_6, gf_8_0, gf_8_4, px_ifp, px_ifn, zh_1, zc_1, zc_2, zc_3, zc_4, zc_5, zc_6, zc_7, zc_8, zc_9, zc_10, zc_11, zc_12, zc_20, zc_21, zc_22, zp_1, zp_2, zp_3, zp_4, zp_5, zp_6, zp_7, zp_8, zp_9, zp_10, zp_11, zp_12, zp_20, zp_21, zp_22, upS_eq, upS_ne, upS_up, upz_eq, upz_ne, upz_up, px_al_aI, px_as_aI, px_as_aZ, px_as_aC, px_ln_aI, Option.toList, List.cons_append, List.nil_append, Int.reduceAdd, Int.reduceSub, Int.reduceMul, ↓reduceIte, Nat.reduceEqDiff, eq_self, Int.reduceEq, Int.reduceLT, Int.reduceLE, Int.reduceNe, Int.reduceNeg, Int.reduceToNat, ne_eq, not_true_eq_false, not_false_eq_true, t0, v0, v1, v2, v3, v4, v5, i0, tsh, k1', el_X10_foldNow_18 (r2 ..) _ (zo_8 _) _]; repeat (first | simp (disch := first | omega | decide) only [upz_srt, upy_upz, upz_up, upS_srt, upT_upS, upS_up] | simp (disch := first | with_reducible assumption | omega | decide | (simp only [ps_low, List.map_cons, List.map_nil, Value.category, List.sum_cons, List.sum_nil]; decide)) only [el_X10_foldNow_0, el_X10_foldNow_1, el_X10_foldNow_4, el_X10_foldNow_7, el_X10_foldNow_9, el_X10_foldNow_12, el_X10_foldNow_13, el_X10_foldNow_16, el_X10_foldNow_17, el_X10_foldNow_21, el_X10_foldNow_24, el_X10_foldNow_25, el_X10_foldNow_28, el_X10_foldNow_31, el_X10_foldNow_32, el_X10_foldNow_33, el_X10_foldNow_34, el_X10_foldNow_35, el_X10_foldNow_36, el_X10_foldNow_37, el_X10_foldNow_38, el_X10_foldNow_39, el_X10_foldNow_40, el_X10_foldNow_43, el_X10_foldNow_44, el_X10_foldNow_48, el_X10_foldNow_49, gf_10_5, gf_10_6, gf_8_0, gf_8_4, px_ifp, px_ifn, zh_1, zc_1, zc_2, zc_3, zc_4, zc_5, zc_6, zc_7, zc_8, zc_9, zc_10, zc_11, zc_12, zc_20, zc_21, zc_22, zp_1, zp_2, zp_3, zp_4, zp_5, zp_6, zp_7, zp_8, zp_9, zp_10, zp_11, zp_12, zp_20, zp_21, zp_22, upS_eq, upS_ne, upS_up, upz_eq, upz_ne, upz_up, px_al_aI, px_as_aI, px_as_aZ, px_as_aC, px_ln_aI, Option.toList, List.cons_append, List.nil_append, Int.reduceAdd, Int.reduceSub, Int.reduceMul, ↓reduceIte, Nat.reduceEqDiff, eq_self, Int.reduceEq, Int.reduceLT, Int.reduceLE, Int.reduceNe, Int.reduceNeg, Int.reduceToNat, ne_eq, not_true_eq_false, not_false_eq_true, t0, v0, v1, v2, v3, v4, v5, i0, tsh, k1', el_X10_foldNow_18 (r2 ..) _ (zo_8 _) _]))
      exact hQ
