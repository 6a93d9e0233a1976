/-! THE FACE, 11: row -/
section FACE
variable {T : Nat → Nat × Nat} {S : Nat → Nat → Int} {c : pm_M × pm_C} {x sA sB : Nat} {k : Int} {F : fS}
/-- a row, read from the tape; G, A0, B0 as they lay before -/
def rowR (F : fS) (G A0 B0 : Nat → Int) (n : Int) : rwP := rwL F.2.2.1.2.1 500 (adv F.2.2.1.2.1 (opF G n), 0, A0, B0)
theorem k_readRow {n : Int} (h : cR T S x sA sB k F) (hC : tcx c.2) (hn : 0 ≤ n ∧ n ≤ F.2.2.1.1) :
    ∃ S1 S2, px_R 2 87 [.ref (x + 1), .int (zI n)] (zh T S c) (.inl none) (zh T S1 c) ∧ px_R 6 27 [.ref (x + 6), .ref (x + 1)] (zh T S1 c) (.inl none) (zh T S2 c) ∧ (∀ a, a ≠ x + 1 → (a < x + 6 ∨ x + 9 ≤ a) → S2 a = S a) ∧
      S2 (x + 1) = (rowR F (S (x + 1)) (S (x + 7)) (S (x + 8)) n).1 ∧ S2 (x + 6) 0 = ((rowR F (S (x + 1)) (S (x + 7)) (S (x + 8)) n).2.1 : Nat) ∧ S2 (x + 7) = (rowR F (S (x + 1)) (S (x + 7)) (S (x + 8)) n).2.2.1 ∧ S2 (x + 8) = (rowR F (S (x + 1)) (S (x + 7)) (S (x + 8)) n).2.2.2 ∧
      rwR (rowR F (S (x + 1)) (S (x + 7)) (S (x + 8)) n) ∧ (rowR F (S (x + 1)) (S (x + 7)) (S (x + 8)) n).2.1 ≤ 500 := by
  have l10 := h.1.1
  obtain ⟨t0, tL1, tL3, tL6, tL9, tL17, tL25, tL34, tL40, tL46, tL55, tL132, tL145⟩ := id l10
  obtain ⟨c1, c2, c3, c4, c5, -⟩ := h.2.2.2.1
  have kO := c_open (T := T) (S := S) (c := c) (n := n) tL1 c3 (by rw [show x + 1 + 1 = x + 2 from rfl, c2]; exact c4) (by omega)
  rw [show x + 1 + 1 = x + 2 from rfl, c2] at kO
  have tp : tpF (adv F.2.2.1.2.1 (opF (S (x + 1)) n)) := tpF_adv (tpA_op c3 (by omega))
  obtain ⟨S2, kR, f, r1, r2, r3, r4⟩ := c_readRow (T := T) (S := upS S (x + 1) (adv F.2.2.1.2.1 (opF (S (x + 1)) n))) (c := c) (t := x + 1) (y := x + 6) (b := F.2.2.1.2.1) (F := adv F.2.2.1.2.1 (opF (S (x + 1)) n)) tL1 tL6 (by omega) upS_eq (by rw [upS_ne (by omega)]; exact c2) tp c4 hC
  rw [upS_ne (show x + 6 + 1 ≠ x + 1 by omega), upS_ne (show x + 6 + 2 ≠ x + 1 by omega)] at r1 r2 r3 r4
  obtain ⟨p, q⟩ := rwL_r (b := F.2.2.1.2.1) 500 (adv F.2.2.1.2.1 (opF (S (x + 1)) n), 0, S (x + 7), S (x + 8)) ⟨tp, fun j hj => absurd hj (Nat.not_lt_zero j)⟩
  exact ⟨_, S2, kO, kR, fun a h1 h2 => by rw [f a h1 h2, upS_ne h1], r1, r2, r3, r4, p, by unfold rowR; omega⟩
def rowP (F : fS) (n k : Int) (r : Int ⊕ String) (F' : fS) : Prop :=
  (¬ (0 ≤ n ∧ n ≤ F.2.2.1.1) ∧ r = .inr iae ∧ F' = F) ∨ ((0 ≤ n ∧ n ≤ F.2.2.1.1) ∧ ∃ G A0 B0 : Nat → Int, tpF G ∧
    (((rowR F G A0 B0 n).1 1 ≠ 0 ∧ r = .inl (-1 - (rowR F G A0 B0 n).1 1) ∧ F' = (F.1, upI F.2.1 0, (0, F.2.2.1.2.1, (rowR F G A0 B0 n).1 2), F.2.2.2)) ∨
      ((rowR F G A0 B0 n).1 1 = 0 ∧ r = .inl (roG F.1 (rowR F G A0 B0 n).2.2.1 (rowR F G A0 B0 n).2.2.2 (rowR F G A0 B0 n).2.1 0 F.2.1).1 ∧ F' = (F.1, (roG F.1 (rowR F G A0 B0 n).2.2.1 (rowR F G A0 B0 n).2.2.2 (rowR F G A0 B0 n).2.1 0 F.2.1).2, (0, F.2.2.1.2.1, (rowR F G A0 B0 n).1 2), F.2.2.2))))
theorem o_row {n : Int} (h : cR T S x sA sB k F) (hC : tcx c.2) (hk : k + 1 ≤ 50000) (hn : rg n) : opR 7 104 [.ref x, .int (zI n), .retAddr 0] T S c x (k + 1) (rowP F n k) := by
  have l10 := h.1.1
  obtain ⟨t0, tL1, tL3, tL6, tL9, tL17, tL25, tL34, tL40, tL46, tL55, tL132, tL145⟩ := id l10
  obtain ⟨v0, v1, v2, v3, v4, v5⟩ := id tL34
  have te : T (x + 6) = (4, 0) := tL6.1
  have t1 : T (x + 1) = (10, 0) := tL1.1
  obtain ⟨c1, c2, c3, c4, c5, -⟩ := id h.2.2.2.1
  have kT := k_tape (c := c) l10 c1 c5 hn
  by_cases g : 0 ≤ n ∧ n ≤ F.2.2.1.1
  · have kT := kT.1 g
    obtain ⟨S1, S2, kO, kR, f, r1, r2, r3, r4, hr, hle⟩ := k_readRow h hC g
    have hp : ∀ r F', (((rowR F (S (x + 1)) (S (x + 7)) (S (x + 8)) n).1 1 ≠ 0 ∧ r = .inl (-1 - (rowR F (S (x + 1)) (S (x + 7)) (S (x + 8)) n).1 1) ∧ F' = (F.1, upI F.2.1 0, (0, F.2.2.1.2.1, (rowR F (S (x + 1)) (S (x + 7)) (S (x + 8)) n).1 2), F.2.2.2)) ∨
      ((rowR F (S (x + 1)) (S (x + 7)) (S (x + 8)) n).1 1 = 0 ∧ r = .inl (roG F.1 (rowR F (S (x + 1)) (S (x + 7)) (S (x + 8)) n).2.2.1 (rowR F (S (x + 1)) (S (x + 7)) (S (x + 8)) n).2.2.2 (rowR F (S (x + 1)) (S (x + 7)) (S (x + 8)) n).2.1 0 F.2.1).1 ∧ F' = (F.1, (roG F.1 (rowR F (S (x + 1)) (S (x + 7)) (S (x + 8)) n).2.2.1 (rowR F (S (x + 1)) (S (x + 7)) (S (x + 8)) n).2.2.2 (rowR F (S (x + 1)) (S (x + 7)) (S (x + 8)) n).2.1 0 F.2.1).2, (0, F.2.2.1.2.1, (rowR F (S (x + 1)) (S (x + 7)) (S (x + 8)) n).1 2), F.2.2.2))) → rowP F n k r F' := fun r F' z => .inr ⟨g, _, _, _, c3, z⟩
    generalize rowR F (S (x + 1)) (S (x + 7)) (S (x + 8)) n = R at *
    obtain ⟨hr1, hr2⟩ := hr
    have e1 : S2 (x + 1) 1 = R.1 1 := by rw [r1]
    have h37 := h.2.2.1.2.1.2.2 0 (by decide)
    have e37 : S2 (x + 37) = S (x + 37) := f _ (by omega) (by omega)
    have k37 : S (x + 37) 0 = F.2.1.2.2 0 := h.2.2.1.1.2.2 0 (by decide)
    have hk0 := h.1.2.2
    have kC := k_close (c := c) (S := S2) l10 e1 hr1.2.2.2 (by rw [e37, k37]; omega)
    have gx : ∀ a, a ≠ x → a ≠ x + 1 → (a < x + 3 ∨ x + 9 ≤ a) → clS S2 x 0 a = S a := fun a h1 h2 h3 => by
      unfold clS
      rw [if_pos rfl, upS_ne h2, upS_ne h1]
      exact f a h2 (by omega)
    have x13 : clS S2 x 0 x 13 = R.1 2 := by
      unfold clS
      rw [if_pos rfl, upS_ne (by omega), upS_eq, upz_eq, r1]
    have hz := h.tape (S' := clS S2 x 0) (fun a _ _ h1 h2 h3 _ => gx a h1 h2 h3) (fun j hj => by
      unfold clS
      rw [if_pos rfl, upS_ne (by omega), upS_eq, upz_ne hj, f x (by omega) (by omega)]) (by
      unfold clS
      rw [if_pos rfl, upS_eq, upz_eq]) (by
      unfold clS
      rw [if_pos rfl, upS_eq, r1]
      exact hr1)
    rw [x13] at hz
    have x11 : clS S2 x 0 (x + 1) 1 = R.1 1 := by
      unfold clS
      rw [if_pos rfl, upS_eq, upz_ne (by decide), r1]
    by_cases g1 : R.1 1 = 0
    · rw [g1] at kC
      have s6 : clS S2 x 0 (x + 6) 0 = (R.2.1 : Nat) := by
        unfold clS
        rw [if_pos rfl, upS_ne (by omega), upS_ne (by omega)]
        exact r2
      have s7 : clS S2 x 0 (x + 7) = R.2.2.1 := by
        unfold clS
        rw [if_pos rfl, upS_ne (by omega), upS_ne (by omega)]
        exact r3
      have s8 : clS S2 x 0 (x + 8) = R.2.2.2 := by
        unfold clS
        rw [if_pos rfl, upS_ne (by omega), upS_ne (by omega)]
        exact r4
      generalize clS S2 x 0 = S3 at *
      obtain ⟨W, hW⟩ : ∃ W, roG F.1 R.2.2.1 R.2.2.2 R.2.1 0 F.2.1 = W := ⟨_, rfl⟩
      rw [hW] at hp
      obtain ⟨v, S', hv, rfl, q1, q2⟩ : zR 7 104 [.ref x, .int (zI n), .retAddr 0] T S c (fun v S' => v = some (.int (zI W.1)) ∧ (∀ a, (a < x ∨ x + 148 ≤ a) → S' a = S a) ∧ cR T S' x sA sB (k + 1) (F.1, W.2, (0, F.2.2.1.2.1, R.1 2), F.2.2.2)) := by
        refine zR_of ?_
        generalize hQf : zQ T c (fun v S' => v = some (.int (zI W.1)) ∧ (∀ a, (a < x ∨ x + 148 ≤ a) → S' a = S a) ∧ cR T S' x sA sB (k + 1) (F.1, W.2, (0, F.2.2.1.2.1, R.1 2), F.2.2.2)) = Qf
        have loop : ∀ (m i : Nat) (S4 : Nat → Nat → Int) (I : iS), i + m = R.2.1 → (∀ a, (a < x + 25 ∨ x + 40 ≤ a) → S4 a = S3 a) → cR T S4 x sA sB k (F.1, I, (0, F.2.2.1.2.1, R.1 2), F.2.2.2) → roG F.1 R.2.2.1 R.2.2.2 m i I = W →
            px_Ev 7 104 43 [.ref x, .int (zI n), .int (zI i)] [] (zh T S4 c) Qf := by
          intro m
          induction m with
          | zero =>
            intro i S4 I hi f4 h4 he
            have s6' : S4 (x + 6) 0 = (R.2.1 : Nat) := by rw [f4 _ (by omega)]; exact s6
            have he' : (i, I) = W := he
            have fq := zQ_in (T := T) (c := c) (P := fun v S' => v = some (.int (zI W.1)) ∧ (∀ a, (a < x ∨ x + 148 ≤ a) → S' a = S a) ∧ cR T S' x sA sB (k + 1) (F.1, W.2, (0, F.2.2.1.2.1, R.1 2), F.2.2.2)) (v := some (.int (zI i))) (S' := S4) ⟨by rw [← he'], fun a ha => by rw [f4 a (by omega), gx a (by omega) (by omega) (by omega)], by rw [← he']; exact h4.le (by omega) hk⟩
            rw [hQf] at fq
            rw [el_X10_row_43]; repeat' (first | (simp (disch := first | with_reducible assumption | omega | decide | (simp only [ps_low, List.map_cons, List.map_nil, Value.category, List.sum_cons, List.sum_nil]; decide)) only [el_X10_row_0, el_X10_row_1, el_X10_row_5, el_X10_row_6, el_X10_row_9, el_X10_row_13, el_X10_row_14, el_X10_row_17, el_X10_row_18, el_X10_row_24, el_X10_row_28, el_X10_row_31, el_X10_row_32, el_X10_row_33, el_X10_row_36, el_X10_row_39, el_X10_row_40, el_X10_row_41, el_X10_row_42, el_X10_row_44, el_X10_row_45, el_X10_row_48, el_X10_row_51, el_X10_row_54, el_X10_row_55, el_X10_row_56, el_X10_row_59, el_X10_row_63, el_X10_row_64, el_X10_row_67, el_X10_row_74, el_X10_row_77, el_X10_row_80, el_X10_row_83, el_X10_row_84, gf_10_0, gf_10_2, gf_3_0, gf_9_1, px_ifp, px_ifn, zh_1, zc_1, zc_2, zc_3, zc_4, zc_5, zc_6, zc_7, zc_8, zc_9, zc_10, zc_11, zc_12, zc_20, zc_21, zc_22, zp_1, zp_2, zp_3, zp_4, zp_5, zp_6, zp_7, zp_8, zp_9, zp_10, zp_11, zp_12, zp_20, zp_21, zp_22, upS_eq, upS_ne, upS_up, upz_eq, upz_ne, upz_up, px_al_aI, px_as_aI, px_as_aZ, px_as_aC, px_ln_aI, Option.toList, List.cons_append, List.nil_append, Int.reduceAdd, Int.reduceSub, Int.reduceMul, ↓reduceIte, Nat.reduceEqDiff, eq_self, Int.reduceEq, Int.reduceLT, Int.reduceLE, Int.reduceNe, Int.reduceNeg, Int.reduceToNat, ne_eq, not_true_eq_false, not_false_eq_true, t0, v0, v1, v2, v3, v4, v5, te, s6']; repeat (first | simp (disch := first | omega | decide) only [upz_srt, upy_upz, upz_up, upS_srt, upT_upS, upS_up] | simp (disch := first | with_reducible assumption | omega | decide | (simp only [ps_low, List.map_cons, List.map_nil, Value.category, List.sum_cons, List.sum_nil]; decide)) only [el_X10_row_0, el_X10_row_1, el_X10_row_5, el_X10_row_6, el_X10_row_9, el_X10_row_13, el_X10_row_14, el_X10_row_17, el_X10_row_18, el_X10_row_24, el_X10_row_28, el_X10_row_31, el_X10_row_32, el_X10_row_33, el_X10_row_36, el_X10_row_39, el_X10_row_40, el_X10_row_41, el_X10_row_42, el_X10_row_44, el_X10_row_45, el_X10_row_48, el_X10_row_51, el_X10_row_54, el_X10_row_55, el_X10_row_56, el_X10_row_59, el_X10_row_63, el_X10_row_64, el_X10_row_67, el_X10_row_74, el_X10_row_77, el_X10_row_80, el_X10_row_83, el_X10_row_84, gf_10_0, gf_10_2, gf_3_0, gf_9_1, px_ifp, px_ifn, zh_1, zc_1, zc_2, zc_3, zc_4, zc_5, zc_6, zc_7, zc_8, zc_9, zc_10, zc_11, zc_12, zc_20, zc_21, zc_22, zp_1, zp_2, zp_3, zp_4, zp_5, zp_6, zp_7, zp_8, zp_9, zp_10, zp_11, zp_12, zp_20, zp_21, zp_22, upS_eq, upS_ne, upS_up, upz_eq, upz_ne, upz_up, px_al_aI, px_as_aI, px_as_aZ, px_as_aC, px_ln_aI, Option.toList, List.cons_append, List.nil_append, Int.reduceAdd, Int.reduceSub, Int.reduceMul, ↓reduceIte, Nat.reduceEqDiff, eq_self, Int.reduceEq, Int.reduceLT, Int.reduceLE, Int.reduceNe, Int.reduceNeg, Int.reduceToNat, ne_eq, not_true_eq_false, not_false_eq_true, t0, v0, v1, v2, v3, v4, v5, te, s6'])) | simp (disch := first | omega | decide) only [upz_srt, upy_upz, upz_up, upS_srt, upT_upS, upS_up] | with_reducible refine px_ite (fun _ => ?_) (fun _ => ?_))
            exact fq
          | succ m ih =>
            intro i S4 I hi f4 h4 he
            have s6' : S4 (x + 6) 0 = (R.2.1 : Nat) := by rw [f4 _ (by omega)]; exact s6
            have s7' : S4 (x + 7) = R.2.2.1 := by rw [f4 _ (by omega)]; exact s7
            have s8' : S4 (x + 8) = R.2.2.2 := by rw [f4 _ (by omega)]; exact s8
            have kA := c_sideOf (T := T) (S := S4) (c := c) (y := x + 6) (i := i) tL6 (by omega)
            have kB := c_numberOf (T := T) (S := S4) (c := c) (y := x + 6) (i := i) tL6 (by omega)
            rw [show x + 6 + 1 = x + 7 from rfl, s7', Int.toNat_natCast] at kA
            rw [show x + 6 + 2 = x + 8 from rfl, s8', Int.toNat_natCast] at kB
            have ra := hr2 i (by omega)
            obtain ⟨S5, kF, f5, h5⟩ := k_foldNow (c := c) (m := R.2.2.2 i) h4 hk ra.1 (by unfold rg; omega)
            unfold roG at he
            unfold foI at kF h5
            by_cases g2 : fOb (layM F.1 I.1) (R.2.2.1 i) (R.2.2.2 i) = true
            · rw [if_pos g2] at he kF h5
              unfold foI at he
              rw [if_pos g2] at he
              have nx := ih (i + 1) S5 _ (by omega) (fun a ha => by rw [f5 a ha, f4 a ha]) (h5.dn h.1.2.2 ⟨h5.2.2.1.2.1.1, h4.2.2.1.2.1.2.1, h4.2.2.1.2.1.2.2⟩ (fun J hJ => by
                rcases h4.2.2.2.2.1 with z | ⟨-, J', z1, -, z2⟩
                · exact absurd (z.2.symm.trans hJ) (by simp)
                · have := z1.symm.trans hJ
                  injection this with this
                  rw [← this]
                  exact z2)) he
              rw [el_X10_row_43]; repeat' (first | (simp (disch := first | with_reducible assumption | omega | decide | (simp only [ps_low, List.map_cons, List.map_nil, Value.category, List.sum_cons, List.sum_nil]; decide)) only [el_X10_row_0, el_X10_row_1, el_X10_row_5, el_X10_row_6, el_X10_row_9, el_X10_row_13, el_X10_row_14, el_X10_row_17, el_X10_row_18, el_X10_row_24, el_X10_row_28, el_X10_row_31, el_X10_row_32, el_X10_row_33, el_X10_row_36, el_X10_row_39, el_X10_row_40, el_X10_row_41, el_X10_row_42, el_X10_row_44, el_X10_row_45, el_X10_row_48, el_X10_row_51, el_X10_row_54, el_X10_row_55, el_X10_row_56, el_X10_row_59, el_X10_row_63, el_X10_row_64, el_X10_row_67, el_X10_row_74, el_X10_row_77, el_X10_row_80, el_X10_row_83, el_X10_row_84, gf_10_0, gf_10_2, gf_3_0, gf_9_1, px_ifp, px_ifn, zh_1, zc_1, zc_2, zc_3, zc_4, zc_5, zc_6, zc_7, zc_8, zc_9, zc_10, zc_11, zc_12, zc_20, zc_21, zc_22, zp_1, zp_2, zp_3, zp_4, zp_5, zp_6, zp_7, zp_8, zp_9, zp_10, zp_11, zp_12, zp_20, zp_21, zp_22, upS_eq, upS_ne, upS_up, upz_eq, upz_ne, upz_up, px_al_aI, px_as_aI, px_as_aZ, px_as_aC, px_ln_aI, Option.toList, List.cons_append, List.nil_append, Int.reduceAdd, Int.reduceSub, Int.reduceMul, ↓reduceIte, Nat.reduceEqDiff, eq_self, Int.reduceEq, Int.reduceLT, Int.reduceLE, Int.reduceNe, Int.reduceNeg, Int.reduceToNat, ne_eq, not_true_eq_false, not_false_eq_true, t0, v0, v1, v2, v3, v4, v5, te, s6', el_X10_row_60 (kA ..) _ (zo_4 _) _, el_X10_row_68 (kB ..) _ (zo_4 _) _, el_X10_row_71 (kF ..) _ (zo_11 _) _]; repeat (first | simp (disch := first | omega | decide) only [upz_srt, upy_upz, upz_up, upS_srt, upT_upS, upS_up] | simp (disch := first | with_reducible assumption | omega | decide | (simp only [ps_low, List.map_cons, List.map_nil, Value.category, List.sum_cons, List.sum_nil]; decide)) only [el_X10_row_0, el_X10_row_1, el_X10_row_5, el_X10_row_6, el_X10_row_9, el_X10_row_13, el_X10_row_14, el_X10_row_17, el_X10_row_18, el_X10_row_24, el_X10_row_28, el_X10_row_31, el_X10_row_32, el_X10_row_33, el_X10_row_36, el_X10_row_39, el_X10_row_40, el_X10_row_41, el_X10_row_42, el_X10_row_44, el_X10_row_45, el_X10_row_48, el_X10_row_51, el_X10_row_54, el_X10_row_55, el_X10_row_56, el_X10_row_59, el_X10_row_63, el_X10_row_64, el_X10_row_67, el_X10_row_74, el_X10_row_77, el_X10_row_80, el_X10_row_83, el_X10_row_84, gf_10_0, gf_10_2, gf_3_0, gf_9_1, px_ifp, px_ifn, zh_1, zc_1, zc_2, zc_3, zc_4, zc_5, zc_6, zc_7, zc_8, zc_9, zc_10, zc_11, zc_12, zc_20, zc_21, zc_22, zp_1, zp_2, zp_3, zp_4, zp_5, zp_6, zp_7, zp_8, zp_9, zp_10, zp_11, zp_12, zp_20, zp_21, zp_22, upS_eq, upS_ne, upS_up, upz_eq, upz_ne, upz_up, px_al_aI, px_as_aI, px_as_aZ, px_as_aC, px_ln_aI, Option.toList, List.cons_append, List.nil_append, Int.reduceAdd, Int.reduceSub, Int.reduceMul, ↓reduceIte, Nat.reduceEqDiff, eq_self, Int.reduceEq, Int.reduceLT, Int.reduceLE, Int.reduceNe, Int.reduceNeg, Int.reduceToNat, ne_eq, not_true_eq_false, not_false_eq_true, t0, v0, v1, v2, v3, v4, v5, te, s6', el_X10_row_60 (kA ..) _ (zo_4 _) _, el_X10_row_68 (kB ..) _ (zo_4 _) _, el_X10_row_71 (kF ..) _ (zo_11 _) _])) | simp (disch := first | omega | decide) only [upz_srt, upy_upz, upz_up, upS_srt, upT_upS, upS_up] | with_reducible refine px_ite (fun _ => ?_) (fun _ => ?_))
              exact nx
            · rw [if_neg g2] at he kF h5
              unfold foI at he
              rw [if_neg g2] at he
              have fq := zQ_in (T := T) (c := c) (P := fun v S' => v = some (.int (zI W.1)) ∧ (∀ a, (a < x ∨ x + 148 ≤ a) → S' a = S a) ∧ cR T S' x sA sB (k + 1) (F.1, W.2, (0, F.2.2.1.2.1, R.1 2), F.2.2.2)) (v := some (.int (zI i))) (S' := S5) ⟨by rw [← he], fun a ha => by rw [f5 a (by omega), f4 a (by omega), gx a (by omega) (by omega) (by omega)], by rw [← he]; exact h5⟩
              rw [hQf] at fq
              rw [el_X10_row_43]; repeat' (first | (simp (disch := first | with_reducible assumption | omega | decide | (simp only [ps_low, List.map_cons, List.map_nil, Value.category, List.sum_cons, List.sum_nil]; decide)) only [el_X10_row_0, el_X10_row_1, el_X10_row_5, el_X10_row_6, el_X10_row_9, el_X10_row_13, el_X10_row_14, el_X10_row_17, el_X10_row_18, el_X10_row_24, el_X10_row_28, el_X10_row_31, el_X10_row_32, el_X10_row_33, el_X10_row_36, el_X10_row_39, el_X10_row_40, el_X10_row_41, el_X10_row_42, el_X10_row_44, el_X10_row_45, el_X10_row_48, el_X10_row_51, el_X10_row_54, el_X10_row_55, el_X10_row_56, el_X10_row_59, el_X10_row_63, el_X10_row_64, el_X10_row_67, el_X10_row_74, el_X10_row_77, el_X10_row_80, el_X10_row_83, el_X10_row_84, gf_10_0, gf_10_2, gf_3_0, gf_9_1, px_ifp, px_ifn, zh_1, zc_1, zc_2, zc_3, zc_4, zc_5, zc_6, zc_7, zc_8, zc_9, zc_10, zc_11, zc_12, zc_20, zc_21, zc_22, zp_1, zp_2, zp_3, zp_4, zp_5, zp_6, zp_7, zp_8, zp_9, zp_10, zp_11, zp_12, zp_20, zp_21, zp_22, upS_eq, upS_ne, upS_up, upz_eq, upz_ne, upz_up, px_al_aI, px_as_aI, px_as_aZ, px_as_aC, px_ln_aI, Option.toList, List.cons_append, List.nil_append, Int.reduceAdd, Int.reduceSub, Int.reduceMul, ↓reduceIte, Nat.reduceEqDiff, eq_self, Int.reduceEq, Int.reduceLT, Int.reduceLE, Int.reduceNe, Int.reduceNeg, Int.reduceToNat, ne_eq, not_true_eq_false, not_false_eq_true, t0, v0, v1, v2, v3, v4, v5, te, s6', el_X10_row_60 (kA ..) _ (zo_4 _) _, el_X10_row_68 (kB ..) _ (zo_4 _) _, el_X10_row_71 (kF ..) _ (zo_11 _) _]; repeat (first | simp (disch := first | omega | decide) only [upz_srt, upy_upz, upz_up, upS_srt, upT_upS, upS_up] | simp (disch := first | with_reducible assumption | omega | decide | (simp only [ps_low, List.map_cons, List.map_nil, Value.category, List.sum_cons, List.sum_nil]; decide)) only [el_X10_row_0, el_X10_row_1, el_X10_row_5, el_X10_row_6, el_X10_row_9, el_X10_row_13, el_X10_row_14, el_X10_row_17, el_X10_row_18, el_X10_row_24, el_X10_row_28, el_X10_row_31, el_X10_row_32, el_X10_row_33, el_X10_row_36, el_X10_row_39, el_X10_row_40, el_X10_row_41, el_X10_row_42, el_X10_row_44, el_X10_row_45, el_X10_row_48, el_X10_row_51, el_X10_row_54, el_X10_row_55, el_X10_row_56, el_X10_row_59, el_X10_row_63, el_X10_row_64, el_X10_row_67, el_X10_row_74, el_X10_row_77, el_X10_row_80, el_X10_row_83, el_X10_row_84, gf_10_0, gf_10_2, gf_3_0, gf_9_1, px_ifp, px_ifn, zh_1, zc_1, zc_2, zc_3, zc_4, zc_5, zc_6, zc_7, zc_8, zc_9, zc_10, zc_11, zc_12, zc_20, zc_21, zc_22, zp_1, zp_2, zp_3, zp_4, zp_5, zp_6, zp_7, zp_8, zp_9, zp_10, zp_11, zp_12, zp_20, zp_21, zp_22, upS_eq, upS_ne, upS_up, upz_eq, upz_ne, upz_up, px_al_aI, px_as_aI, px_as_aZ, px_as_aC, px_ln_aI, Option.toList, List.cons_append, List.nil_append, Int.reduceAdd, Int.reduceSub, Int.reduceMul, ↓reduceIte, Nat.reduceEqDiff, eq_self, Int.reduceEq, Int.reduceLT, Int.reduceLE, Int.reduceNe, Int.reduceNeg, Int.reduceToNat, ne_eq, not_true_eq_false, not_false_eq_true, t0, v0, v1, v2, v3, v4, v5, te, s6', el_X10_row_60 (kA ..) _ (zo_4 _) _, el_X10_row_68 (kB ..) _ (zo_4 _) _, el_X10_row_71 (kF ..) _ (zo_11 _) _])) | simp (disch := first | omega | decide) only [upz_srt, upy_upz, upz_up, upS_srt, upT_upS, upS_up] | with_reducible refine px_ite (fun _ => ?_) (fun _ => ?_))
              exact fq
        have l0 := loop R.2.1 0 S3 F.2.1 (by omega) (fun a _ => rfl) hz hW
        (simp (disch := first | with_reducible assumption | omega | decide | (simp only [ps_low, List.map_cons, List.map_nil, Value.category, List.sum_cons, List.sum_nil]; decide)) only [el_X10_row_0, el_X10_row_1, el_X10_row_5, el_X10_row_6, el_X10_row_9, el_X10_row_13, el_X10_row_14, el_X10_row_17, el_X10_row_18, el_X10_row_24, el_X10_row_28, el_X10_row_31, el_X10_row_32, el_X10_row_33, el_X10_row_36, el_X10_row_39, el_X10_row_40, el_X10_row_41, el_X10_row_42, el_X10_row_44, el_X10_row_45, el_X10_row_48, el_X10_row_51, el_X10_row_54, el_X10_row_55, el_X10_row_56, el_X10_row_59, el_X10_row_63, el_X10_row_64, el_X10_row_67, el_X10_row_74, el_X10_row_77, el_X10_row_80, el_X10_row_83, el_X10_row_84, gf_10_0, gf_10_2, gf_3_0, gf_9_1, px_ifp, px_ifn, zh_1, zc_1, zc_2, zc_3, zc_4, zc_5, zc_6, zc_7, zc_8, zc_9, zc_10, zc_11, zc_12, zc_20, zc_21, zc_22, zp_1, zp_2, zp_3, zp_4, zp_5, zp_6, zp_7, zp_8, zp_9, zp_10, zp_11, zp_12, zp_20, zp_21, zp_22, upS_eq, upS_ne, upS_up, upz_eq, upz_ne, upz_up, px_al_aI, px_as_aI, px_as_aZ, px_as_aC, px_ln_aI, Option.toList, List.cons_append, List.nil_append, Int.reduceAdd, Int.reduceSub, Int.reduceMul, ↓reduceIte, Nat.reduceEqDiff, eq_self, Int.reduceEq, Int.reduceLT, Int.reduceLE, Int.reduceNe, Int.reduceNeg, Int.reduceToNat, ne_eq, not_true_eq_false, not_false_eq_true, t0, v0, v1, v2, v3, v4, v5, el_X10_row_2 (kT ..) _ (zo_11 _) _, t1, te, el_X10_row_10 (kO ..) _ (zo_10 _) _, el_X10_row_21 (kR ..) _ (zo_4 _) _, el_X10_row_25 (kC ..) _ (zo_11 _) _]; repeat (first | simp (disch := first | omega | decide) only [upz_srt, upy_upz, upz_up, upS_srt, upT_upS, upS_up] | simp (disch := first | with_reducible assumption | omega | decide | (simp only [ps_low, List.map_cons, List.map_nil, Value.category, List.sum_cons, List.sum_nil]; decide)) only [el_X10_row_0, el_X10_row_1, el_X10_row_5, el_X10_row_6, el_X10_row_9, el_X10_row_13, el_X10_row_14, el_X10_row_17, el_X10_row_18, el_X10_row_24, el_X10_row_28, el_X10_row_31, el_X10_row_32, el_X10_row_33, el_X10_row_36, el_X10_row_39, el_X10_row_40, el_X10_row_41, el_X10_row_42, el_X10_row_44, el_X10_row_45, el_X10_row_48, el_X10_row_51, el_X10_row_54, el_X10_row_55, el_X10_row_56, el_X10_row_59, el_X10_row_63, el_X10_row_64, el_X10_row_67, el_X10_row_74, el_X10_row_77, el_X10_row_80, el_X10_row_83, el_X10_row_84, gf_10_0, gf_10_2, gf_3_0, gf_9_1, px_ifp, px_ifn, zh_1, zc_1, zc_2, zc_3, zc_4, zc_5, zc_6, zc_7, zc_8, zc_9, zc_10, zc_11, zc_12, zc_20, zc_21, zc_22, zp_1, zp_2, zp_3, zp_4, zp_5, zp_6, zp_7, zp_8, zp_9, zp_10, zp_11, zp_12, zp_20, zp_21, zp_22, upS_eq, upS_ne, upS_up, upz_eq, upz_ne, upz_up, px_al_aI, px_as_aI, px_as_aZ, px_as_aC, px_ln_aI, Option.toList, List.cons_append, List.nil_append, Int.reduceAdd, Int.reduceSub, Int.reduceMul, ↓reduceIte, Nat.reduceEqDiff, eq_self, Int.reduceEq, Int.reduceLT, Int.reduceLE, Int.reduceNe, Int.reduceNeg, Int.reduceToNat, ne_eq, not_true_eq_false, not_false_eq_true, t0, v0, v1, v2, v3, v4, v5, el_X10_row_2 (kT ..) _ (zo_11 _) _, t1, te, el_X10_row_10 (kO ..) _ (zo_10 _) _, el_X10_row_21 (kR ..) _ (zo_4 _) _, el_X10_row_25 (kC ..) _ (zo_11 _) _]))
        exact l0
      exact opR_val hv q1 q2 (hp _ _ (.inr ⟨g1, rfl, rfl⟩))
    · have g2 : R.1 1 ≠ 0 := g1
      generalize hft : R.1 1 = ft at *
      have rft : 0 ≤ ft ∧ ft ≤ 4 := by
        rw [← hft]
        exact hr1.2.2.2
      have e5 : clS S2 x ft = upS (clS S2 x 0) (x + 37) (upz (S (x + 37)) 0 (F.2.1.2.2 0 + 1)) := by
        unfold clS
        rw [if_neg g1, if_pos rfl, e37, k37]
      rw [e5] at kC
      generalize clS S2 x 0 = S3 at *
      obtain ⟨⟨i0, i1⟩, ⟨j0, j1, j2⟩, k0⟩ := hz.2.2.1.1
      obtain ⟨o1, o2, o3⟩ := hz.2.2.1.2.1
      have z37 : S3 (x + 37) = S (x + 37) := gx _ (by omega) (by omega) (by omega)
      refine opR_val (S' := upS S3 (x + 37) (upz (S (x + 37)) 0 (F.2.1.2.2 0 + 1))) (v := -1 - ft) (sA := sA) (sB := sB) (px_ofQ fun Q hQ => ?_) (fun a ha => by rw [upS_ne (by omega)]; exact gx a (by omega) (by omega) (by omega)) (hz.state (I := upI F.2.1 0) (by omega) (fun a h1 h2 h3 h4 h5 => upS_ne (by omega)) ⟨⟨?_, fun j hj => ?_⟩, ⟨?_, fun j hj => ?_, fun j hj => ?_⟩, fun j hj => ?_⟩ ⟨o1, o2, fun j hj => ?_⟩ (hz.2.2.1.2.2.eq (fun a h1 h2 => upS_ne (by omega)))) (hp _ _ (.inl ⟨g1, rfl, rfl⟩))
      · (simp (disch := first | with_reducible assumption | omega | decide | (simp only [ps_low, List.map_cons, List.map_nil, Value.category, List.sum_cons, List.sum_nil]; decide)) only [el_X10_row_0, el_X10_row_1, el_X10_row_5, el_X10_row_6, el_X10_row_9, el_X10_row_13, el_X10_row_14, el_X10_row_17, el_X10_row_18, el_X10_row_24, el_X10_row_28, el_X10_row_31, el_X10_row_32, el_X10_row_33, el_X10_row_36, el_X10_row_39, el_X10_row_40, el_X10_row_41, el_X10_row_42, el_X10_row_44, el_X10_row_45, el_X10_row_48, el_X10_row_51, el_X10_row_54, el_X10_row_55, el_X10_row_56, el_X10_row_59, el_X10_row_63, el_X10_row_64, el_X10_row_67, el_X10_row_74, el_X10_row_77, el_X10_row_80, el_X10_row_83, el_X10_row_84, gf_10_0, gf_10_2, gf_3_0, gf_9_1, px_ifp, px_ifn, zh_1, zc_1, zc_2, zc_3, zc_4, zc_5, zc_6, zc_7, zc_8, zc_9, zc_10, zc_11, zc_12, zc_20, zc_21, zc_22, zp_1, zp_2, zp_3, zp_4, zp_5, zp_6, zp_7, zp_8, zp_9, zp_10, zp_11, zp_12, zp_20, zp_21, zp_22, upS_eq, upS_ne, upS_up, upz_eq, upz_ne, upz_up, px_al_aI, px_as_aI, px_as_aZ, px_as_aC, px_ln_aI, Option.toList, List.cons_append, List.nil_append, Int.reduceAdd, Int.reduceSub, Int.reduceMul, ↓reduceIte, Nat.reduceEqDiff, eq_self, Int.reduceEq, Int.reduceLT, Int.reduceLE, Int.reduceNe, Int.reduceNeg, Int.reduceToNat, ne_eq, not_true_eq_false, not_false_eq_true, t0, v0, v1, v2, v3, v4, v5, el_X10_row_2 (kT ..) _ (zo_11 _) _, t1, te, el_X10_row_10 (kO ..) _ (zo_10 _) _, el_X10_row_21 (kR ..) _ (zo_4 _) _, el_X10_row_25 (kC ..) _ (zo_11 _) _, x11]; repeat (first | simp (disch := first | omega | decide) only [upz_srt, upy_upz, upz_up, upS_srt, upT_upS, upS_up] | simp (disch := first | with_reducible assumption | omega | decide | (simp only [ps_low, List.map_cons, List.map_nil, Value.category, List.sum_cons, List.sum_nil]; decide)) only [el_X10_row_0, el_X10_row_1, el_X10_row_5, el_X10_row_6, el_X10_row_9, el_X10_row_13, el_X10_row_14, el_X10_row_17, el_X10_row_18, el_X10_row_24, el_X10_row_28, el_X10_row_31, el_X10_row_32, el_X10_row_33, el_X10_row_36, el_X10_row_39, el_X10_row_40, el_X10_row_41, el_X10_row_42, el_X10_row_44, el_X10_row_45, el_X10_row_48, el_X10_row_51, el_X10_row_54, el_X10_row_55, el_X10_row_56, el_X10_row_59, el_X10_row_63, el_X10_row_64, el_X10_row_67, el_X10_row_74, el_X10_row_77, el_X10_row_80, el_X10_row_83, el_X10_row_84, gf_10_0, gf_10_2, gf_3_0, gf_9_1, px_ifp, px_ifn, zh_1, zc_1, zc_2, zc_3, zc_4, zc_5, zc_6, zc_7, zc_8, zc_9, zc_10, zc_11, zc_12, zc_20, zc_21, zc_22, zp_1, zp_2, zp_3, zp_4, zp_5, zp_6, zp_7, zp_8, zp_9, zp_10, zp_11, zp_12, zp_20, zp_21, zp_22, upS_eq, upS_ne, upS_up, upz_eq, upz_ne, upz_up, px_al_aI, px_as_aI, px_as_aZ, px_as_aC, px_ln_aI, Option.toList, List.cons_append, List.nil_append, Int.reduceAdd, Int.reduceSub, Int.reduceMul, ↓reduceIte, Nat.reduceEqDiff, eq_self, Int.reduceEq, Int.reduceLT, Int.reduceLE, Int.reduceNe, Int.reduceNeg, Int.reduceToNat, ne_eq, not_true_eq_false, not_false_eq_true, t0, v0, v1, v2, v3, v4, v5, el_X10_row_2 (kT ..) _ (zo_11 _) _, t1, te, el_X10_row_10 (kO ..) _ (zo_10 _) _, el_X10_row_21 (kR ..) _ (zo_4 _) _, el_X10_row_25 (kC ..) _ (zo_11 _) _, x11]))
        exact hQ
      · rw [upS_ne (by omega)]
        exact i0
      · rw [upS_ne (by omega), upS_ne (by omega)]
        exact i1 j hj
      · rw [upS_ne (by omega)]
        exact j0
      · rw [upS_ne (by omega)]
        exact j1 j hj
      · rw [upS_ne (by omega)]
        exact j2 j hj
      · rw [show x + 34 + 3 = x + 37 from rfl, upS_eq]
        change upz (S (x + 37)) 0 (F.2.1.2.2 0 + 1) j = upz F.2.1.2.2 0 (F.2.1.2.2 0 + 1) j
        have := h.2.2.1.1.2.2 j hj
        unfold upz
        split
        · rfl
        · exact this
      · change 0 ≤ upz F.2.1.2.2 0 (F.2.1.2.2 0 + 1) j ∧ upz F.2.1.2.2 0 (F.2.1.2.2 0 + 1) j ≤ k + 1
        have := h.2.2.1.2.1.2.2 j hj
        unfold upz
        split <;> omega
  · have kT := kT.2 g
    refine opR_thr (S' := S) (px_ofQ fun Q hQ => ?_) (fun a _ => rfl) (h.le (by omega) hk) (.inl ⟨g, rfl, rfl⟩)
    (simp (disch := first | with_reducible assumption | omega | decide | (simp only [ps_low, List.map_cons, List.map_nil, Value.category, List.sum_cons, List.sum_nil]; decide)) only [el_X10_row_0, el_X10_row_1, px_ifp, px_ifn, zh_1, zc_1, zc_2, zc_3, zc_4, zc_5, zc_6, zc_7, zc_8, zc_9, zc_10, zc_11, zc_12, zc_20, zc_21, zc_22, zp_1, zp_2, zp_3, zp_4, zp_5, zp_6, zp_7, zp_8, zp_9, zp_10, zp_11, zp_12, zp_20, zp_21, zp_22, upS_eq, upS_ne, upS_up, upz_eq, upz_ne, upz_up, px_al_aI, px_as_aI, px_as_aZ, px_as_aC, px_ln_aI, Option.toList, List.cons_append, List.nil_append, Int.reduceAdd, Int.reduceSub, Int.reduceMul, ↓reduceIte, Nat.reduceEqDiff, eq_self, Int.reduceEq, Int.reduceLT, Int.reduceLE, Int.reduceNe, Int.reduceNeg, Int.reduceToNat, ne_eq, not_true_eq_false, not_false_eq_true, t0, v0, v1, v2, v3, v4, v5]; repeat (first | simp (disch := first | omega | decide) only [upz_srt, upy_upz, upz_up, upS_srt, upT_upS, upS_up] | simp (disch := first | with_reducible assumption | omega | decide | (simp only [ps_low, List.map_cons, List.map_nil, Value.category, List.sum_cons, List.sum_nil]; decide)) only [el_X10_row_0, el_X10_row_1, px_ifp, px_ifn, zh_1, zc_1, zc_2, zc_3, zc_4, zc_5, zc_6, zc_7, zc_8, zc_9, zc_10, zc_11, zc_12, zc_20, zc_21, zc_22, zp_1, zp_2, zp_3, zp_4, zp_5, zp_6, zp_7, zp_8, zp_9, zp_10, zp_11, zp_12, zp_20, zp_21, zp_22, upS_eq, upS_ne, upS_up, upz_eq, upz_ne, upz_up, px_al_aI, px_as_aI, px_as_aZ, px_as_aC, px_ln_aI, Option.toList, List.cons_append, List.nil_append, Int.reduceAdd, Int.reduceSub, Int.reduceMul, ↓reduceIte, Nat.reduceEqDiff, eq_self, Int.reduceEq, Int.reduceLT, Int.reduceLE, Int.reduceNe, Int.reduceNeg, Int.reduceToNat, ne_eq, not_true_eq_false, not_false_eq_true, t0, v0, v1, v2, v3, v4, v5]))
    rw [el_X10_row_2x kT (by decide) (zo_11 l10.1) rfl]
    exact hQ
end FACE
