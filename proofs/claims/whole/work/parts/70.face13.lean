/-! THE FACE, 13: school -/
section FACE
variable {T : Nat → Nat × Nat} {S : Nat → Nat → Int} {c : pm_M × pm_C} {x sA sB : Nat} {k : Int} {F : fS}
/-- a School, read from the tape; G, A0, B0 as they lay before -/
def schR (F : fS) (G : Nat → Int) (A0 B0 : Nat → Nat → Int) (n : Int) : pS := rdAll F.2.2.1.2.1 (adv F.2.2.1.2.1 (opF G n), A0, B0)
theorem cR.l4B (h : cR T S x sA sB k F) : ly4 T sB := by
  have l10 := h.1.1
  have hs := h.1.2.1
  obtain ⟨t0, tL1, tL3, tL6, tL9, tL17, tL25, tL34, tL40, tL46, tL55, tL132, tL145⟩ := l10
  rcases hs with ⟨-, rfl⟩ | ⟨-, rfl⟩ <;> assumption
theorem k_readSchool {n : Int} (h : cR T S x sA sB k F) (hC : tcx c.2) (hn : 0 ≤ n ∧ n ≤ F.2.2.1.1) :
    ∃ S1 S2, px_R 2 87 [.ref (x + 1), .int (zI n)] (zh T S c) (.inl none) (zh T S1 c) ∧ (∀ a, a ≠ x + 1 → S1 a = S a) ∧ px_R 8 36 [.ref (x + 3), .ref (x + 1), .ref sB, .retAddr 0] (zh T S1 c) (.inl none) (zh T S2 c) ∧ (∀ a, a ≠ x + 1 → (a < sB ∨ sB + 8 ≤ a) → (a < x + 3 ∨ x + 6 ≤ a) → S2 a = S a) ∧
      S2 (x + 1) = (schR F (S (x + 1)) (fun k => S (sB + k)) (fun k => S (x + 3 + k)) n).1 ∧ (∀ k, k < 8 → S2 (sB + k) = (schR F (S (x + 1)) (fun k => S (sB + k)) (fun k => S (x + 3 + k)) n).2.1 k) ∧ tpF (schR F (S (x + 1)) (fun k => S (sB + k)) (fun k => S (x + 3 + k)) n).1 ∧
      ∀ (S' : Nat → Nat → Int) (s : Nat), (∀ k, k < 8 → S' (s + k) = (schR F (S (x + 1)) (fun k => S (sB + k)) (fun k => S (x + 3 + k)) n).2.1 k) → scOk S' s := by
  have l10 := h.1.1
  obtain ⟨t0, tL1, tL3, tL6, tL9, tL17, tL25, tL34, tL40, tL46, tL55, tL132, tL145⟩ := id l10
  have hs := h.1.2.1
  obtain ⟨c1, c2, c3, c4, c5, -⟩ := h.2.2.2.1
  have kO := c_open (T := T) (S := S) (c := c) (n := n) tL1 c3 (by rw [show x + 1 + 1 = x + 2 from rfl, c2]; exact c4) (by omega)
  rw [show x + 1 + 1 = x + 2 from rfl, c2] at kO
  have tp : tpF (adv F.2.2.1.2.1 (opF (S (x + 1)) n)) := tpF_adv (tpA_op c3 (by omega))
  obtain ⟨S2, kR, f, r⟩ := c_readSchool (T := T) (S := upS S (x + 1) (adv F.2.2.1.2.1 (opF (S (x + 1)) n))) (c := c) (t := x + 1) (s := sB) (x := x + 3) (b := F.2.2.1.2.1) (P := (adv F.2.2.1.2.1 (opF (S (x + 1)) n), fun k => S (sB + k), fun k => S (x + 3 + k))) ⟨tL1, h.l4B, tL3, by omega, by omega, by omega⟩ ⟨upS_eq, by rw [upS_ne (by omega)]; exact c2, fun k hk => upS_ne (by omega), fun k hk => upS_ne (by omega)⟩ tp c4 hC
  obtain ⟨p, q⟩ := rdAll_ok (b := F.2.2.1.2.1) (P := (adv F.2.2.1.2.1 (opF (S (x + 1)) n), fun k => S (sB + k), fun k => S (x + 3 + k))) tp
  exact ⟨_, S2, kO, fun a h => upS_ne h, kR, fun a h1 h2 h3 => by rw [f a h1 h2 (by omega), upS_ne h1], r.1, r.2.2.1, p, q⟩
def schP (F : fS) (n : Int) (r : Int ⊕ String) (F' : fS) : Prop :=
  (¬ (0 ≤ n ∧ n ≤ F.2.2.1.1) ∧ r = .inr iae ∧ F' = F) ∨ ((0 ≤ n ∧ n ≤ F.2.2.1.1) ∧ ∃ (G : Nat → Int) (A0 B0 : Nat → Nat → Int), tpF G ∧
    (((schR F G A0 B0 n).1 1 ≠ 0 ∧ r = .inl ((schR F G A0 B0 n).1 1) ∧ F' = (F.1, upI F.2.1 0, (0, F.2.2.1.2.1, (schR F G A0 B0 n).1 2), F.2.2.2)) ∨
      ((schR F G A0 B0 n).1 1 = 0 ∧ r = .inl 0 ∧ F' = ((schR F G A0 B0 n).2.1, ([], (0, F.2.1.2.1.2), F.2.1.2.2), (0, F.2.2.1.2.1, (schR F G A0 B0 n).1 2), none, none, none))))
theorem o_school {n : Int} (h : cR T S x sA sB k F) (hC : tcx c.2) (hk : k + 1 ≤ 50000) (hn : rg n) : opR 9 103 [.ref x, .int (zI n), .retAddr 0] T S c x (k + 1) (schP F n) := by
  have l10 := h.1.1
  obtain ⟨t0, tL1, tL3, tL6, tL9, tL17, tL25, tL34, tL40, tL46, tL55, tL132, tL145⟩ := id l10
  obtain ⟨v0, v1, v2, v3, v4, v5⟩ := id tL34
  have te : T (x + 55) = (7, 0) := tL55.1
  have t1 : T (x + 1) = (10, 0) := tL1.1
  have t3 : T (x + 3) = (6, 0) := tL3.1
  have tev : T (x + 132) = (1, 0) := tL132.1
  have hs := h.1.2.1
  have e3 : (S x 3).toNat = sA := by have := h.2.1.1; omega
  have e4 : (S x 4).toNat = sB := by have := h.2.1.2.1; omega
  obtain ⟨c1, c2, c3, c4, c5, -⟩ := id h.2.2.2.1
  have kT := k_tape (c := c) l10 c1 c5 hn
  by_cases g : 0 ≤ n ∧ n ≤ F.2.2.1.1
  · have kT := kT.1 g
    obtain ⟨S1, S2, kO, fO, kR, f, r1, r2, hr1, hok⟩ := k_readSchool h hC g
    have hp : ∀ r F', (((schR F (S (x + 1)) (fun k => S (sB + k)) (fun k => S (x + 3 + k)) n).1 1 ≠ 0 ∧ r = .inl ((schR F (S (x + 1)) (fun k => S (sB + k)) (fun k => S (x + 3 + k)) n).1 1) ∧ F' = (F.1, upI F.2.1 0, (0, F.2.2.1.2.1, (schR F (S (x + 1)) (fun k => S (sB + k)) (fun k => S (x + 3 + k)) n).1 2), F.2.2.2)) ∨
      ((schR F (S (x + 1)) (fun k => S (sB + k)) (fun k => S (x + 3 + k)) n).1 1 = 0 ∧ r = .inl 0 ∧ F' = ((schR F (S (x + 1)) (fun k => S (sB + k)) (fun k => S (x + 3 + k)) n).2.1, ([], (0, F.2.1.2.1.2), F.2.1.2.2), (0, F.2.2.1.2.1, (schR F (S (x + 1)) (fun k => S (sB + k)) (fun k => S (x + 3 + k)) n).1 2), none, none, none))) → schP F n r F' := fun r F' z => .inr ⟨g, _, _, _, c3, z⟩
    generalize schR F (S (x + 1)) (fun k => S (sB + k)) (fun k => S (x + 3 + k)) n = R at *
    have e1 : S2 (x + 1) 1 = R.1 1 := by rw [r1]
    have e14 : (S1 x 4).toNat = sB := by rw [fO x (by omega)]; exact e4
    have h37 := h.2.2.1.2.1.2.2 0 (by decide)
    have e37 : S2 (x + 37) = S (x + 37) := f _ (by omega) (by omega) (by omega)
    have k37 : S (x + 37) 0 = F.2.1.2.2 0 := h.2.2.1.1.2.2 0 (by decide)
    have hk0 := h.1.2.2
    have kC := k_close (c := c) (S := S2) l10 e1 hr1.2.2.2 (by rw [e37, k37]; omega)
    have gx : ∀ a, a ≠ x → a ≠ x + 1 → (a < sB ∨ sB + 8 ≤ a) → (a < x + 3 ∨ x + 6 ≤ a) → clS S2 x 0 a = S a := fun a h1 h2 h3 h4 => by
      unfold clS
      rw [if_pos rfl, upS_ne h2, upS_ne h1]
      exact f a h2 h3 h4
    have x13 : clS S2 x 0 x 13 = R.1 2 := by
      unfold clS
      rw [if_pos rfl, upS_ne (by omega), upS_eq, upz_eq, r1]
    have x11 : clS S2 x 0 (x + 1) 1 = R.1 1 := by
      unfold clS
      rw [if_pos rfl, upS_eq, upz_ne (by decide), r1]
    have xj : ∀ j, j ≠ 13 → clS S2 x 0 x j = S x j := fun j hj => by
      unfold clS
      rw [if_pos rfl, upS_ne (by omega), upS_eq, upz_ne hj, f x (by omega) (by omega) (by omega)]
    have x10 : clS S2 x 0 (x + 1) 0 = 0 := by
      unfold clS
      rw [if_pos rfl, upS_eq, upz_eq]
    have x1 : tpF (clS S2 x 0 (x + 1)) := by
      unfold clS
      rw [if_pos rfl, upS_eq, r1]
      exact hr1
    have xs : ∀ k, k < 8 → clS S2 x 0 (sB + k) = R.2.1 k := fun k hk => by
      unfold clS
      rw [if_pos rfl, upS_ne (by omega), upS_ne (by omega)]
      exact r2 k hk
    by_cases g1 : R.1 1 = 0
    · rw [g1] at kC x11
      generalize clS S2 x 0 = S3 at *
      have hSt := h.2.2.1.1
      have hIO := h.2.2.1.2.1
      have h59 := h.2.2.2.2.2.1.1
      have h136 := h.2.2.2.2.2.2.1
      have s4 : ∀ j, S3 (x + 34 + 4) j = S (x + 34 + 4) j := fun j => by rw [gx _ (by omega) (by omega) (by omega) (by omega)]
      obtain ⟨v, S', hv, rfl, q1, q2⟩ : zR 9 103 [.ref x, .int (zI n), .retAddr 0] T S c (fun v S' => v = some (.int (zI 0)) ∧ (∀ a, (a < x ∨ x + 148 ≤ a) → S' a = S a) ∧ cR T S' x sB sA (k + 1) (R.2.1, ([], (0, F.2.1.2.1.2), F.2.1.2.2), (0, F.2.2.1.2.1, R.1 2), none, none, none)) := by
        refine zR_of ?_
        have fq0 := fun v S' => zQ_in (T := T) (c := c) (P := fun v S' => v = some (.int (zI 0)) ∧ (∀ a, (a < x ∨ x + 148 ≤ a) → S' a = S a) ∧ cR T S' x sB sA (k + 1) (R.2.1, ([], (0, F.2.1.2.1.2), F.2.1.2.2), (0, F.2.2.1.2.1, R.1 2), none, none, none)) (v := v) (S' := S')
        generalize hQf : zQ T c (fun v S' => v = some (.int (zI 0)) ∧ (∀ a, (a < x ∨ x + 148 ≤ a) → S' a = S a) ∧ cR T S' x sB sA (k + 1) (R.2.1, ([], (0, F.2.1.2.1.2), F.2.1.2.2), (0, F.2.2.1.2.1, R.1 2), none, none, none)) = Qf at *
        have fin : ∀ S8 : Nat → Nat → Int, (S8 x 3 = sB ∧ S8 x 4 = sA ∧ S8 x 8 = 0 ∧ S8 x 13 = R.1 2) → (S8 (x + 1) = S3 (x + 1) ∧ S8 (x + 55) 2 = -1 ∧ (∀ j, j < 10 → S8 (x + 133) j = 0) ∧ S8 (x + 34) = upz (upz (S (x + 34)) 0 0) 1 0) → (∀ a, (a < x ∨ x + 2 ≤ a) → a ≠ x + 34 → a ≠ x + 55 → a ≠ x + 133 → S8 a = S3 a) →
            px_Ev 9 103 88 [.ref x, .int (zI n), .ref sB] [.ref x] (zh T S8 c) Qf := by
          intro S8 ⟨m3, m4, m8, m13⟩ ⟨n1, n2, n3, n4⟩ f8
          have eB : ∀ j, j < 8 → S8 (sB + j) = R.2.1 j := fun j hj => by rw [f8 _ (by omega) (by omega) (by omega) (by omega)]; exact xs j hj
          have eB0 : S8 sB = R.2.1 0 := eB 0 (by decide)
          have ok := hok S8 sB eB
          have hD := ok.dO eB0
          have st : stR S8 (x + 34) ([], (0, F.2.1.2.1.2), F.2.1.2.2) := by
            have o : ∀ a, x + 34 < a → a < x + 40 → S8 a = S a := fun a h1 h2 => by rw [f8 a (by omega) (by omega) (by omega) (by omega), gx a (by omega) (by omega) (by omega) (by omega)]
            refine ⟨⟨by rw [n4]; rfl, fun j hj => absurd hj (Nat.not_lt_zero j)⟩, ⟨by rw [n4]; rfl, fun j hj => ?_, fun j hj => ?_⟩, fun j hj => ?_⟩
            · rw [o _ (by omega) (by omega)]
              exact hSt.2.1.2.1 j hj
            · rw [o _ (by omega) (by omega)]
              exact hSt.2.1.2.2 j hj
            · rw [o _ (by omega) (by omega)]
              exact hSt.2.2 j hj
          obtain ⟨S9, kL, f9, sh9⟩ := k_layAnew (c := c) (S := S8) (sA := sB) (sB := sA) (D := R.2.1) (I := ([], (0, F.2.1.2.1.2), F.2.1.2.2)) l10 (by omega) m3 eB0 hD st trivial
          have w : ∀ a, (a < x ∨ x + 2 ≤ a) → (a < x + 25 ∨ x + 34 < a) → (a < sB ∨ sB + 8 ≤ a) → (a < x + 3 ∨ x + 6 ≤ a) → a ≠ x + 55 → a ≠ x + 133 → S9 a = S a := fun a h1 h2 h3 h4 h5 h6 => by
            rw [f9 a (by omega), f8 a h1 (by omega) h5 h6, gx a (by omega) (by omega) h3 h4]
          have fq := fq0 (some (.int (zI 0))) S9 ⟨rfl, fun a ha => w a (by omega) (by omega) (by omega) (by omega) (by omega) (by omega), ⟨l10, by omega, by omega, by omega⟩, ⟨by rw [f9 _ (by omega)]; exact m3, by rw [f9 _ (by omega)]; exact m4, ok.eq (fun a h1 h2 => f9 a (by omega)), fun j hj => by rw [f9 _ (by omega)]; exact eB j hj⟩,
            ⟨st.eq (fun a h1 h2 => f9 a (by omega)), ⟨trivial, ⟨by show 0 ≤ 12; decide, fun r hr => absurd hr (Nat.not_lt_zero r), hIO.2.1.2.2⟩, fun j hj => by have := hIO.2.2 j hj; exact ⟨this.1, by show F.2.1.2.2 j ≤ k + 1; omega⟩⟩, sh9⟩,
            ⟨by rw [f9 _ (by omega), n1]; exact x10, by rw [w _ (by omega) (by omega) (by omega) (by omega) (by omega) (by omega)]; exact c2, by rw [f9 _ (by omega), n1]; exact x1, c4, ⟨Int.le_refl 0, by show (0 : Int) ≤ 500; decide⟩, by rw [f9 _ (by omega)]; exact m13, trivial⟩,
            .inl ⟨by rw [f9 _ (by omega)]; exact m8, rfl⟩, ⟨fun i hi => by rw [w _ (by omega) (by omega) (by omega) (by omega) (by omega) (by omega)]; exact h59 i hi, .inl ⟨by rw [f9 _ (by omega)]; exact n2, rfl⟩⟩, fun j hj => by rw [w _ (by omega) (by omega) (by omega) (by omega) (by omega) (by omega)]; exact h136 j hj, .inl ⟨rfl, fun j hj => by rw [f9 _ (by omega)]; exact n3 j hj⟩⟩
          (simp (disch := first | with_reducible assumption | omega | decide | (simp only [ps_low, List.map_cons, List.map_nil, Value.category, List.sum_cons, List.sum_nil]; decide)) only [el_X10_school_91, el_X10_school_92, px_ifp, px_ifn, zh_1, zc_1, zc_2, zc_3, zc_4, zc_5, zc_6, zc_7, zc_8, zc_9, zc_10, zc_11, zc_12, zc_20, zc_21, zc_22, zp_1, zp_2, zp_3, zp_4, zp_5, zp_6, zp_7, zp_8, zp_9, zp_10, zp_11, zp_12, zp_20, zp_21, zp_22, upS_eq, upS_ne, upS_up, upz_eq, upz_ne, upz_up, px_al_aI, px_as_aI, px_as_aZ, px_as_aC, px_ln_aI, Option.toList, List.cons_append, List.nil_append, Int.reduceAdd, Int.reduceSub, Int.reduceMul, ↓reduceIte, Nat.reduceEqDiff, eq_self, Int.reduceEq, Int.reduceLT, Int.reduceLE, Int.reduceNe, Int.reduceNeg, Int.reduceToNat, ne_eq, not_true_eq_false, not_false_eq_true, t0, v0, v1, v2, v3, v4, v5, el_X10_school_88 (kL ..) _ (zo_11 _) _]; repeat (first | simp (disch := first | omega | decide) only [upz_srt, upy_upz, upz_up, upS_srt, upT_upS, upS_up] | simp (disch := first | with_reducible assumption | omega | decide | (simp only [ps_low, List.map_cons, List.map_nil, Value.category, List.sum_cons, List.sum_nil]; decide)) only [el_X10_school_91, el_X10_school_92, px_ifp, px_ifn, zh_1, zc_1, zc_2, zc_3, zc_4, zc_5, zc_6, zc_7, zc_8, zc_9, zc_10, zc_11, zc_12, zc_20, zc_21, zc_22, zp_1, zp_2, zp_3, zp_4, zp_5, zp_6, zp_7, zp_8, zp_9, zp_10, zp_11, zp_12, zp_20, zp_21, zp_22, upS_eq, upS_ne, upS_up, upz_eq, upz_ne, upz_up, px_al_aI, px_as_aI, px_as_aZ, px_as_aC, px_ln_aI, Option.toList, List.cons_append, List.nil_append, Int.reduceAdd, Int.reduceSub, Int.reduceMul, ↓reduceIte, Nat.reduceEqDiff, eq_self, Int.reduceEq, Int.reduceLT, Int.reduceLE, Int.reduceNe, Int.reduceNeg, Int.reduceToNat, ne_eq, not_true_eq_false, not_false_eq_true, t0, v0, v1, v2, v3, v4, v5, el_X10_school_88 (kL ..) _ (zo_11 _) _]))
          exact fq
        have kD := fun S => c_clearBut (T := T) (S := S) (c := c) (q := x + 34) tL34
        have kS := fun S => c_forgetS (T := T) (S := S) (c := c) (q := x + 55) te
        have kE := fun S => c_forgetEv (T := T) (S := S) (c := c) (e := x + 132) tL132
        have p3 : (S3 x 3).toNat = sA := by rw [xj 3 (by decide)]; exact e3
        have p4 : (S3 x 4).toNat = sB := by rw [xj 4 (by decide)]; exact e4
        (simp (disch := first | with_reducible assumption | omega | decide | (simp only [ps_low, List.map_cons, List.map_nil, Value.category, List.sum_cons, List.sum_nil]; decide)) only [el_X10_school_0, el_X10_school_1, el_X10_school_5, el_X10_school_6, el_X10_school_9, el_X10_school_13, el_X10_school_14, el_X10_school_17, el_X10_school_18, el_X10_school_21, el_X10_school_22, el_X10_school_28, el_X10_school_32, el_X10_school_35, el_X10_school_36, el_X10_school_39, el_X10_school_42, el_X10_school_43, el_X10_school_44, el_X10_school_47, el_X10_school_48, el_X10_school_49, el_X10_school_50, el_X10_school_53, el_X10_school_56, el_X10_school_57, el_X10_school_58, el_X10_school_61, el_X10_school_62, el_X10_school_68, el_X10_school_69, el_X10_school_75, el_X10_school_76, el_X10_school_82, el_X10_school_83, el_X10_school_84, el_X10_school_87, gf_10_0, gf_10_1, gf_10_10, gf_10_11, gf_10_3, gf_10_4, gf_10_6, gf_9_1, pf_10_3, pf_10_4, pf_10_8, px_ifp, px_ifn, zh_1, zc_1, zc_2, zc_3, zc_4, zc_5, zc_6, zc_7, zc_8, zc_9, zc_10, zc_11, zc_12, zc_20, zc_21, zc_22, zp_1, zp_2, zp_3, zp_4, zp_5, zp_6, zp_7, zp_8, zp_9, zp_10, zp_11, zp_12, zp_20, zp_21, zp_22, upS_eq, upS_ne, upS_up, upz_eq, upz_ne, upz_up, px_al_aI, px_as_aI, px_as_aZ, px_as_aC, px_ln_aI, Option.toList, List.cons_append, List.nil_append, Int.reduceAdd, Int.reduceSub, Int.reduceMul, ↓reduceIte, Nat.reduceEqDiff, eq_self, Int.reduceEq, Int.reduceLT, Int.reduceLE, Int.reduceNe, Int.reduceNeg, Int.reduceToNat, ne_eq, not_true_eq_false, not_false_eq_true, t0, v0, v1, v2, v3, v4, v5, el_X10_school_2 (kT ..) _ (zo_11 _) _, t1, t3, te, tev, e3, e4, e14, el_X10_school_10 (kO ..) _ (zo_10 _) _, el_X10_school_25 (kR ..) _ (zo_6 _) _, el_X10_school_29 (kC ..) _ (zo_11 _) _, p3, p4, el_X10_school_65 ((kD _)) _ (zo_9 _) _, el_X10_school_72 ((kS _)) _ (zo_7 _) _, el_X10_school_79 ((kE _)) _ (zo_1 _) _]; repeat (first | simp (disch := first | omega | decide) only [upz_srt, upy_upz, upz_up, upS_srt, upT_upS, upS_up] | simp (disch := first | with_reducible assumption | omega | decide | (simp only [ps_low, List.map_cons, List.map_nil, Value.category, List.sum_cons, List.sum_nil]; decide)) only [el_X10_school_0, el_X10_school_1, el_X10_school_5, el_X10_school_6, el_X10_school_9, el_X10_school_13, el_X10_school_14, el_X10_school_17, el_X10_school_18, el_X10_school_21, el_X10_school_22, el_X10_school_28, el_X10_school_32, el_X10_school_35, el_X10_school_36, el_X10_school_39, el_X10_school_42, el_X10_school_43, el_X10_school_44, el_X10_school_47, el_X10_school_48, el_X10_school_49, el_X10_school_50, el_X10_school_53, el_X10_school_56, el_X10_school_57, el_X10_school_58, el_X10_school_61, el_X10_school_62, el_X10_school_68, el_X10_school_69, el_X10_school_75, el_X10_school_76, el_X10_school_82, el_X10_school_83, el_X10_school_84, el_X10_school_87, gf_10_0, gf_10_1, gf_10_10, gf_10_11, gf_10_3, gf_10_4, gf_10_6, gf_9_1, pf_10_3, pf_10_4, pf_10_8, px_ifp, px_ifn, zh_1, zc_1, zc_2, zc_3, zc_4, zc_5, zc_6, zc_7, zc_8, zc_9, zc_10, zc_11, zc_12, zc_20, zc_21, zc_22, zp_1, zp_2, zp_3, zp_4, zp_5, zp_6, zp_7, zp_8, zp_9, zp_10, zp_11, zp_12, zp_20, zp_21, zp_22, upS_eq, upS_ne, upS_up, upz_eq, upz_ne, upz_up, px_al_aI, px_as_aI, px_as_aZ, px_as_aC, px_ln_aI, Option.toList, List.cons_append, List.nil_append, Int.reduceAdd, Int.reduceSub, Int.reduceMul, ↓reduceIte, Nat.reduceEqDiff, eq_self, Int.reduceEq, Int.reduceLT, Int.reduceLE, Int.reduceNe, Int.reduceNeg, Int.reduceToNat, ne_eq, not_true_eq_false, not_false_eq_true, t0, v0, v1, v2, v3, v4, v5, el_X10_school_2 (kT ..) _ (zo_11 _) _, t1, t3, te, tev, e3, e4, e14, el_X10_school_10 (kO ..) _ (zo_10 _) _, el_X10_school_25 (kR ..) _ (zo_6 _) _, el_X10_school_29 (kC ..) _ (zo_11 _) _, p3, p4, el_X10_school_65 ((kD _)) _ (zo_9 _) _, el_X10_school_72 ((kS _)) _ (zo_7 _) _, el_X10_school_79 ((kE _)) _ (zo_1 _) _]))
        refine fin _ ⟨?_, ?_, ?_, ?_⟩ ⟨?_, ?_, ?_, ?_⟩ ?_
        · rw [upS_ne (by omega), upS_ne (by omega), upS_ne (by omega), upS_eq]
          rfl
        · rw [upS_ne (by omega), upS_ne (by omega), upS_ne (by omega), upS_eq]
          rfl
        · rw [upS_ne (by omega), upS_ne (by omega), upS_ne (by omega), upS_eq]
          rfl
        · rw [upS_ne (by omega), upS_ne (by omega), upS_ne (by omega), upS_eq]
          exact x13
        · rw [upS_ne (by omega), upS_ne (by omega), upS_ne (by omega), upS_ne (by omega)]
        · rw [upS_ne (by omega), upS_eq]
          rfl
        · intro j hj
          rw [show x + 133 = x + 132 + 1 from rfl, upS_eq]
          exact if_pos hj
        · rw [upS_ne (by omega), upS_ne (by omega), upS_eq, gx _ (by omega) (by omega) (by omega) (by omega)]
        · intro a h1 h2 h3 h4
          rw [upS_ne (by omega), upS_ne (by omega), upS_ne (by omega), upS_ne (by omega)]
      exact opR_val hv q1 q2 (hp _ _ (.inr ⟨g1, rfl, rfl⟩))
    · have hz := h.tape (S' := clS S2 x 0) (fun a _ _ h1 h2 h3 h4 => gx a h1 h2 h4 (by omega)) (fun j hj => xj j hj) x10 x1
      rw [x13] at hz
      generalize hft : R.1 1 = ft at *
      have rft : 0 ≤ ft ∧ ft ≤ 4 := by
        rw [← hft]
        exact hr1.2.2.2
      have e5 : clS S2 x ft = upS (clS S2 x 0) (x + 37) (upz (S (x + 37)) 0 (F.2.1.2.2 0 + 1)) := by
        unfold clS
        rw [if_neg g1, if_pos rfl, e37, k37]
      rw [e5] at kC
      generalize clS S2 x 0 = S3 at *
      obtain ⟨⟨i0, i1⟩, ⟨j0, j1, j2⟩, k0⟩ := hz.2.2.1.1
      obtain ⟨o1, o2, o3⟩ := hz.2.2.1.2.1
      refine opR_val (S' := upS S3 (x + 37) (upz (S (x + 37)) 0 (F.2.1.2.2 0 + 1))) (v := ft) (sA := sA) (sB := sB) (px_ofQ fun Q hQ => ?_) (fun a ha => by rw [upS_ne (by omega)]; exact gx a (by omega) (by omega) (by omega) (by omega)) (hz.state (I := upI F.2.1 0) (by omega) (fun a h1 h2 h3 h4 h5 => upS_ne (by omega)) ⟨⟨?_, fun j hj => ?_⟩, ⟨?_, fun j hj => ?_, fun j hj => ?_⟩, fun j hj => ?_⟩ ⟨o1, o2, fun j hj => ?_⟩ (hz.2.2.1.2.2.eq (fun a h1 h2 => upS_ne (by omega)))) (hp _ _ (.inl ⟨g1, rfl, rfl⟩))
      · (simp (disch := first | with_reducible assumption | omega | decide | (simp only [ps_low, List.map_cons, List.map_nil, Value.category, List.sum_cons, List.sum_nil]; decide)) only [el_X10_school_0, el_X10_school_1, el_X10_school_5, el_X10_school_6, el_X10_school_9, el_X10_school_13, el_X10_school_14, el_X10_school_17, el_X10_school_18, el_X10_school_21, el_X10_school_22, el_X10_school_28, el_X10_school_32, el_X10_school_35, el_X10_school_36, el_X10_school_39, el_X10_school_42, el_X10_school_43, el_X10_school_44, el_X10_school_47, el_X10_school_48, el_X10_school_49, el_X10_school_50, el_X10_school_53, el_X10_school_56, el_X10_school_57, el_X10_school_58, el_X10_school_61, el_X10_school_62, el_X10_school_68, el_X10_school_69, el_X10_school_75, el_X10_school_76, el_X10_school_82, el_X10_school_83, el_X10_school_84, el_X10_school_87, el_X10_school_91, el_X10_school_92, gf_10_0, gf_10_1, gf_10_10, gf_10_11, gf_10_3, gf_10_4, gf_10_6, gf_9_1, pf_10_3, pf_10_4, pf_10_8, px_ifp, px_ifn, zh_1, zc_1, zc_2, zc_3, zc_4, zc_5, zc_6, zc_7, zc_8, zc_9, zc_10, zc_11, zc_12, zc_20, zc_21, zc_22, zp_1, zp_2, zp_3, zp_4, zp_5, zp_6, zp_7, zp_8, zp_9, zp_10, zp_11, zp_12, zp_20, zp_21, zp_22, upS_eq, upS_ne, upS_up, upz_eq, upz_ne, upz_up, px_al_aI, px_as_aI, px_as_aZ, px_as_aC, px_ln_aI, Option.toList, List.cons_append, List.nil_append, Int.reduceAdd, Int.reduceSub, Int.reduceMul, ↓reduceIte, Nat.reduceEqDiff, eq_self, Int.reduceEq, Int.reduceLT, Int.reduceLE, Int.reduceNe, Int.reduceNeg, Int.reduceToNat, ne_eq, not_true_eq_false, not_false_eq_true, t0, v0, v1, v2, v3, v4, v5, el_X10_school_2 (kT ..) _ (zo_11 _) _, t1, t3, te, e4, e14, el_X10_school_10 (kO ..) _ (zo_10 _) _, el_X10_school_25 (kR ..) _ (zo_6 _) _, el_X10_school_29 (kC ..) _ (zo_11 _) _, x11]; repeat (first | simp (disch := first | omega | decide) only [upz_srt, upy_upz, upz_up, upS_srt, upT_upS, upS_up] | simp (disch := first | with_reducible assumption | omega | decide | (simp only [ps_low, List.map_cons, List.map_nil, Value.category, List.sum_cons, List.sum_nil]; decide)) only [el_X10_school_0, el_X10_school_1, el_X10_school_5, el_X10_school_6, el_X10_school_9, el_X10_school_13, el_X10_school_14, el_X10_school_17, el_X10_school_18, el_X10_school_21, el_X10_school_22, el_X10_school_28, el_X10_school_32, el_X10_school_35, el_X10_school_36, el_X10_school_39, el_X10_school_42, el_X10_school_43, el_X10_school_44, el_X10_school_47, el_X10_school_48, el_X10_school_49, el_X10_school_50, el_X10_school_53, el_X10_school_56, el_X10_school_57, el_X10_school_58, el_X10_school_61, el_X10_school_62, el_X10_school_68, el_X10_school_69, el_X10_school_75, el_X10_school_76, el_X10_school_82, el_X10_school_83, el_X10_school_84, el_X10_school_87, el_X10_school_91, el_X10_school_92, gf_10_0, gf_10_1, gf_10_10, gf_10_11, gf_10_3, gf_10_4, gf_10_6, gf_9_1, pf_10_3, pf_10_4, pf_10_8, px_ifp, px_ifn, zh_1, zc_1, zc_2, zc_3, zc_4, zc_5, zc_6, zc_7, zc_8, zc_9, zc_10, zc_11, zc_12, zc_20, zc_21, zc_22, zp_1, zp_2, zp_3, zp_4, zp_5, zp_6, zp_7, zp_8, zp_9, zp_10, zp_11, zp_12, zp_20, zp_21, zp_22, upS_eq, upS_ne, upS_up, upz_eq, upz_ne, upz_up, px_al_aI, px_as_aI, px_as_aZ, px_as_aC, px_ln_aI, Option.toList, List.cons_append, List.nil_append, Int.reduceAdd, Int.reduceSub, Int.reduceMul, ↓reduceIte, Nat.reduceEqDiff, eq_self, Int.reduceEq, Int.reduceLT, Int.reduceLE, Int.reduceNe, Int.reduceNeg, Int.reduceToNat, ne_eq, not_true_eq_false, not_false_eq_true, t0, v0, v1, v2, v3, v4, v5, el_X10_school_2 (kT ..) _ (zo_11 _) _, t1, t3, te, e4, e14, el_X10_school_10 (kO ..) _ (zo_10 _) _, el_X10_school_25 (kR ..) _ (zo_6 _) _, el_X10_school_29 (kC ..) _ (zo_11 _) _, x11]))
        exact hQ
      · rw [upS_ne (by omega)]
        exact i0
      · rw [upS_ne (by omega), upS_ne (by omega)]
        exact i1 j hj
      · rw [upS_ne (by omega)]
        exact j0
      · rw [upS_ne (by omega)]
        exact j1 j hj
      · rw [upS_ne (by omega)]
        exact j2 j hj
      · rw [show x + 34 + 3 = x + 37 from rfl, upS_eq]
        change upz (S (x + 37)) 0 (F.2.1.2.2 0 + 1) j = upz F.2.1.2.2 0 (F.2.1.2.2 0 + 1) j
        have := h.2.2.1.1.2.2 j hj
        unfold upz
        split
        · rfl
        · exact this
      · change 0 ≤ upz F.2.1.2.2 0 (F.2.1.2.2 0 + 1) j ∧ upz F.2.1.2.2 0 (F.2.1.2.2 0 + 1) j ≤ k + 1
        have := h.2.2.1.2.1.2.2 j hj
        unfold upz
        split <;> omega
  · have kT := kT.2 g
    refine opR_thr (S' := S) (px_ofQ fun Q hQ => ?_) (fun a _ => rfl) (h.le (by omega) hk) (.inl ⟨g, rfl, rfl⟩)
    (simp (disch := first | with_reducible assumption | omega | decide | (simp only [ps_low, List.map_cons, List.map_nil, Value.category, List.sum_cons, List.sum_nil]; decide)) only [el_X10_school_0, el_X10_school_1, px_ifp, px_ifn, zh_1, zc_1, zc_2, zc_3, zc_4, zc_5, zc_6, zc_7, zc_8, zc_9, zc_10, zc_11, zc_12, zc_20, zc_21, zc_22, zp_1, zp_2, zp_3, zp_4, zp_5, zp_6, zp_7, zp_8, zp_9, zp_10, zp_11, zp_12, zp_20, zp_21, zp_22, upS_eq, upS_ne, upS_up, upz_eq, upz_ne, upz_up, px_al_aI, px_as_aI, px_as_aZ, px_as_aC, px_ln_aI, Option.toList, List.cons_append, List.nil_append, Int.reduceAdd, Int.reduceSub, Int.reduceMul, ↓reduceIte, Nat.reduceEqDiff, eq_self, Int.reduceEq, Int.reduceLT, Int.reduceLE, Int.reduceNe, Int.reduceNeg, Int.reduceToNat, ne_eq, not_true_eq_false, not_false_eq_true, t0, v0, v1, v2, v3, v4, v5]; repeat (first | simp (disch := first | omega | decide) only [upz_srt, upy_upz, upz_up, upS_srt, upT_upS, upS_up] | simp (disch := first | with_reducible assumption | omega | decide | (simp only [ps_low, List.map_cons, List.map_nil, Value.category, List.sum_cons, List.sum_nil]; decide)) only [el_X10_school_0, el_X10_school_1, px_ifp, px_ifn, zh_1, zc_1, zc_2, zc_3, zc_4, zc_5, zc_6, zc_7, zc_8, zc_9, zc_10, zc_11, zc_12, zc_20, zc_21, zc_22, zp_1, zp_2, zp_3, zp_4, zp_5, zp_6, zp_7, zp_8, zp_9, zp_10, zp_11, zp_12, zp_20, zp_21, zp_22, upS_eq, upS_ne, upS_up, upz_eq, upz_ne, upz_up, px_al_aI, px_as_aI, px_as_aZ, px_as_aC, px_ln_aI, Option.toList, List.cons_append, List.nil_append, Int.reduceAdd, Int.reduceSub, Int.reduceMul, ↓reduceIte, Nat.reduceEqDiff, eq_self, Int.reduceEq, Int.reduceLT, Int.reduceLE, Int.reduceNe, Int.reduceNeg, Int.reduceToNat, ne_eq, not_true_eq_false, not_false_eq_true, t0, v0, v1, v2, v3, v4, v5]))
    rw [el_X10_school_2x kT (by decide) (zo_11 l10.1) rfl]
    exact hQ
end FACE
