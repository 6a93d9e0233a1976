/-! THE FACE, 13: school -/
section FACE
variable {T : Nat → Nat × Nat} {S : Nat → Nat → Int} {c : pm_M × pm_C} {x sA sB : Nat} {k : Int} {F : fS}
/-- a School, read from the tape; G, A0, B0 as they lay before -/
def schR (F : fS) (G : Nat → Int) (A0 B0 : Nat → Nat → Int) (n : Int) : pS := rdAll F.2.2.1.2.1 (adv F.2.2.1.2.1 (opF G n), A0, B0)
theorem cR.l4B (h : cR T S x sA sB k F) : ly4 T sB := by
  have l10 := h.1.1
  have hs := h.1.2.1
  obtain ⟨t0, tL1, tL3, tL6, tL9, tL17, tL25, tL34, tL40, tL46, tL55, tL132, tL145⟩ := l10
  rcases hs with ⟨-, rfl⟩ | ⟨-, rfl⟩ <;> assumption
theorem k_readSchool {n : Int} (h : cR T S x sA sB k F) (hC : tcx c.2) (hn : 0 ≤ n ∧ n ≤ F.2.2.1.1) :
    ∃ S1 S2, px_R 2 87 [.ref (x + 1), .int (zI n)] (zh T S c) (.inl none) (zh T S1 c) ∧ px_R 8 36 [.ref (x + 3), .ref (x + 1), .ref sB, .retAddr 0] (zh T S1 c) (.inl none) (zh T S2 c) ∧ (∀ a, a ≠ x + 1 → (a < sB ∨ sB + 8 ≤ a) → (a < x + 3 ∨ x + 6 ≤ a) → S2 a = S a) ∧
      S2 (x + 1) = (schR F (S (x + 1)) (fun k => S (sB + k)) (fun k => S (x + 3 + k)) n).1 ∧ (∀ k, k < 8 → S2 (sB + k) = (schR F (S (x + 1)) (fun k => S (sB + k)) (fun k => S (x + 3 + k)) n).2.1 k) ∧ tpF (schR F (S (x + 1)) (fun k => S (sB + k)) (fun k => S (x + 3 + k)) n).1 ∧
      ∀ (S' : Nat → Nat → Int) (s : Nat), (∀ k, k < 8 → S' (s + k) = (schR F (S (x + 1)) (fun k => S (sB + k)) (fun k => S (x + 3 + k)) n).2.1 k) → scOk S' s := by
  have l10 := h.1.1
  obtain ⟨t0, tL1, tL3, tL6, tL9, tL17, tL25, tL34, tL40, tL46, tL55, tL132, tL145⟩ := id l10
  have hs := h.1.2.1
  obtain ⟨c1, c2, c3, c4, c5, -⟩ := h.2.2.2.1
  have kO := c_open (T := T) (S := S) (c := c) (n := n) tL1 c3 (by rw [show x + 1 + 1 = x + 2 from rfl, c2]; exact c4) (by omega)
  rw [show x + 1 + 1 = x + 2 from rfl, c2] at kO
  have tp : tpF (adv F.2.2.1.2.1 (opF (S (x + 1)) n)) := tpF_adv (tpA_op c3 (by omega))
  obtain ⟨S2, kR, f, r⟩ := c_readSchool (T := T) (S := upS S (x + 1) (adv F.2.2.1.2.1 (opF (S (x + 1)) n))) (c := c) (t := x + 1) (s := sB) (x := x + 3) (b := F.2.2.1.2.1) (P := (adv F.2.2.1.2.1 (opF (S (x + 1)) n), fun k => S (sB + k), fun k => S (x + 3 + k))) ⟨tL1, h.l4B, tL3, by omega, by omega, by omega⟩ ⟨upS_eq, by rw [upS_ne (by omega)]; exact c2, fun k hk => upS_ne (by omega), fun k hk => upS_ne (by omega)⟩ tp c4 hC
  obtain ⟨p, q⟩ := rdAll_ok (b := F.2.2.1.2.1) (P := (adv F.2.2.1.2.1 (opF (S (x + 1)) n), fun k => S (sB + k), fun k => S (x + 3 + k))) tp
  exact ⟨_, S2, kO, kR, fun a h1 h2 h3 => by rw [f a h1 h2 (by omega), upS_ne h1], r.1, r.2.2.1, p, q⟩
def schP (F : fS) (n : Int) (r : Int ⊕ String) (F' : fS) : Prop :=
  (¬ (0 ≤ n ∧ n ≤ F.2.2.1.1) ∧ r = .inr iae ∧ F' = F) ∨ ((0 ≤ n ∧ n ≤ F.2.2.1.1) ∧ ∃ (G : Nat → Int) (A0 B0 : Nat → Nat → Int), tpF G ∧
    (((schR F G A0 B0 n).1 1 ≠ 0 ∧ r = .inl ((schR F G A0 B0 n).1 1) ∧ F' = (F.1, upI F.2.1 0, (0, F.2.2.1.2.1, (schR F G A0 B0 n).1 2), F.2.2.2)) ∨
      ((schR F G A0 B0 n).1 1 = 0 ∧ r = .inl 0 ∧ F' = ((schR F G A0 B0 n).2.1, ([], (0, F.2.1.2.1.2), F.2.1.2.2), (0, F.2.2.1.2.1, (schR F G A0 B0 n).1 2), none, none, none))))
theorem o_school {n : Int} (h : cR T S x sA sB k F) (hC : tcx c.2) (hk : k + 1 ≤ 50000) (hn : rg n) : opR 9 103 [.ref x, .int (zI n), .retAddr 0] T S c x (k + 1) (schP F n) := by
  have l10 := h.1.1
  obtain ⟨t0, tL1, tL3, tL6, tL9, tL17, tL25, tL34, tL40, tL46, tL55, tL132, tL145⟩ := id l10
  obtain ⟨v0, v1, v2, v3, v4, v5⟩ := id tL34
  have te : T (x + 55) = (7, 0) := tL55.1
  have t1 : T (x + 1) = (10, 0) := tL1.1
  have t3 : T (x + 3) = (6, 0) := tL3.1
  have tev : T (x + 132) = (1, 0) := tL132.1
  have hs := h.1.2.1
  have e3 : (S x 3).toNat = sA := by have := h.2.1.1; omega
  have e4 : (S x 4).toNat = sB := by have := h.2.1.2.1; omega
  obtain ⟨c1, c2, c3, c4, c5, -⟩ := id h.2.2.2.1
  have kT := k_tape (c := c) l10 c1 c5 hn
  by_cases g : 0 ≤ n ∧ n ≤ F.2.2.1.1
  · have kT := kT.1 g
    obtain ⟨S1, S2, kO, kR, f, r1, r2, hr1, hok⟩ := k_readSchool h hC g
    have hp : ∀ r F', (((schR F (S (x + 1)) (fun k => S (sB + k)) (fun k => S (x + 3 + k)) n).1 1 ≠ 0 ∧ r = .inl ((schR F (S (x + 1)) (fun k => S (sB + k)) (fun k => S (x + 3 + k)) n).1 1) ∧ F' = (F.1, upI F.2.1 0, (0, F.2.2.1.2.1, (schR F (S (x + 1)) (fun k => S (sB + k)) (fun k => S (x + 3 + k)) n).1 2), F.2.2.2)) ∨
      ((schR F (S (x + 1)) (fun k => S (sB + k)) (fun k => S (x + 3 + k)) n).1 1 = 0 ∧ r = .inl 0 ∧ F' = ((schR F (S (x + 1)) (fun k => S (sB + k)) (fun k => S (x + 3 + k)) n).2.1, ([], (0, F.2.1.2.1.2), F.2.1.2.2), (0, F.2.2.1.2.1, (schR F (S (x + 1)) (fun k => S (sB + k)) (fun k => S (x + 3 + k)) n).1 2), none, none, none))) → schP F n r F' := fun r F' z => .inr ⟨g, _, _, _, c3, z⟩
    generalize schR F (S (x + 1)) (fun k => S (sB + k)) (fun k => S (x + 3 + k)) n = R at *
    have e1 : S2 (x + 1) 1 = R.1 1 := by rw [r1]
    have h37 := h.2.2.1.2.1.2.2 0 (by decide)
    have e37 : S2 (x + 37) = S (x + 37) := f _ (by omega) (by omega) (by omega)
    have k37 : S (x + 37) 0 = F.2.1.2.2 0 := h.2.2.1.1.2.2 0 (by decide)
    have hk0 := h.1.2.2
    have kC := k_close (c := c) (S := S2) l10 e1 hr1.2.2.2 (by rw [e37, k37]; omega)
    have gx : ∀ a, a ≠ x → a ≠ x + 1 → (a < sB ∨ sB + 8 ≤ a) → (a < x + 3 ∨ x + 6 ≤ a) → clS S2 x 0 a = S a := fun a h1 h2 h3 h4 => by
      unfold clS
      rw [if_pos rfl, upS_ne h2, upS_ne h1]
      exact f a h2 h3 h4
    have x13 : clS S2 x 0 x 13 = R.1 2 := by
      unfold clS
      rw [if_pos rfl, upS_ne (by omega), upS_eq, upz_eq, r1]
    have x11 : clS S2 x 0 (x + 1) 1 = R.1 1 := by
      unfold clS
      rw [if_pos rfl, upS_eq, upz_ne (by decide), r1]
    have xj : ∀ j, j ≠ 13 → clS S2 x 0 x j = S x j := fun j hj => by
      unfold clS
      rw [if_pos rfl, upS_ne (by omega), upS_eq, upz_ne hj, f x (by omega) (by omega) (by omega)]
    have x10 : clS S2 x 0 (x + 1) 0 = 0 := by
      unfold clS
      rw [if_pos rfl, upS_eq, upz_eq]
    have x1 : tpF (clS S2 x 0 (x + 1)) := by
      unfold clS
      rw [if_pos rfl, upS_eq, r1]
      exact hr1
    have xs : ∀ k, k < 8 → clS S2 x 0 (sB + k) = R.2.1 k := fun k hk => by
      unfold clS
      rw [if_pos rfl, upS_ne (by omega), upS_ne (by omega)]
      exact r2 k hk
    by_cases g1 : R.1 1 = 0
    · rw [g1] at kC
      sorry
    · sorry
  · have kT := kT.2 g
    refine opR_thr (S' := S) (px_ofQ fun Q hQ => ?_) (fun a _ => rfl) (h.le (by omega) hk) (.inl ⟨g, rfl, rfl⟩)
    (simp (disch := first | with_reducible assumption | omega | decide | (simp only [ps_low, List.map_cons, List.map_nil, Value.category, List.sum_cons, List.sum_nil]; decide)) only [el_X10_school_0, el_X10_school_1, px_ifp, px_ifn, zh_1, zc_1, zc_2, zc_3, zc_4, zc_5, zc_6, zc_7, zc_8, zc_9, zc_10, zc_11, zc_12, zc_20, zc_21, zc_22, zp_1, zp_2, zp_3, zp_4, zp_5, zp_6, zp_7, zp_8, zp_9, zp_10, zp_11, zp_12, zp_20, zp_21, zp_22, upS_eq, upS_ne, upS_up, upz_eq, upz_ne, upz_up, px_al_aI, px_as_aI, px_as_aZ, px_as_aC, px_ln_aI, Option.toList, List.cons_append, List.nil_append, Int.reduceAdd, Int.reduceSub, Int.reduceMul, ↓reduceIte, Nat.reduceEqDiff, eq_self, Int.reduceEq, Int.reduceLT, Int.reduceLE, Int.reduceNe, Int.reduceNeg, Int.reduceToNat, ne_eq, not_true_eq_false, not_false_eq_true, t0, v0, v1, v2, v3, v4, v5]; repeat (first | simp (disch := first | omega | decide) only [upz_srt, upy_upz, upz_up, upS_srt, upT_upS, upS_up] | simp (disch := first | with_reducible assumption | omega | decide | (simp only [ps_low, List.map_cons, List.map_nil, Value.category, List.sum_cons, List.sum_nil]; decide)) only [el_X10_school_0, el_X10_school_1, px_ifp, px_ifn, zh_1, zc_1, zc_2, zc_3, zc_4, zc_5, zc_6, zc_7, zc_8, zc_9, zc_10, zc_11, zc_12, zc_20, zc_21, zc_22, zp_1, zp_2, zp_3, zp_4, zp_5, zp_6, zp_7, zp_8, zp_9, zp_10, zp_11, zp_12, zp_20, zp_21, zp_22, upS_eq, upS_ne, upS_up, upz_eq, upz_ne, upz_up, px_al_aI, px_as_aI, px_as_aZ, px_as_aC, px_ln_aI, Option.toList, List.cons_append, List.nil_append, Int.reduceAdd, Int.reduceSub, Int.reduceMul, ↓reduceIte, Nat.reduceEqDiff, eq_self, Int.reduceEq, Int.reduceLT, Int.reduceLE, Int.reduceNe, Int.reduceNeg, Int.reduceToNat, ne_eq, not_true_eq_false, not_false_eq_true, t0, v0, v1, v2, v3, v4, v5]))
    rw [el_X10_school_2x kT (by decide) (zo_11 l10.1) rfl]
    exact hQ
end FACE
