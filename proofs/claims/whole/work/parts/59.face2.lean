/-! THE FACE, 2: all that is kept. fS: the School's cells, what an image keeps, the tape (size, bytes, fault's place), the image, the BEST that is kept, the EVENING -/
abbrev fS : Type := (Nat → Nat → Int) × iS × (Int × (Nat → Int) × Int) × Option iS × Option (List Nat × Int) × Option (Nat × (Nat → Int))
/-- what an image keeps is as it may be -/
def iO (D : Nat → Nat → Int) (k : Int) (I : iS) : Prop := fsO D (mp (D 0 0) (D 0 1)) I.1 ∧ rwOk I.2.1.1 I.2.1.2.1 I.2.1.2.2 ∧ ∀ j, j < 3 → 0 ≤ I.2.2 j ∧ I.2.2 j ≤ k
/-- the class's cells as these numbers tell; k: how many calls there were at most -/
def cR (T : Nat → Nat × Nat) (S : Nat → Nat → Int) (x sA sB : Nat) (k : Int) (F : fS) : Prop :=
  (ly10 T x ∧ ((sA = x + 9 ∧ sB = x + 17) ∨ (sA = x + 17 ∧ sB = x + 9)) ∧ (0 ≤ k ∧ k ≤ 50000)) ∧
  (S x 3 = sA ∧ S x 4 = sB ∧ scOk S sA ∧ ∀ j, j < 8 → S (sA + j) = F.1 j) ∧
  (stR S (x + 34) F.2.1 ∧ iO F.1 k F.2.1 ∧ shR S (x + 25) (nD F.1) (layM F.1 F.2.1.1)) ∧
  (S (x + 1) 0 = F.2.2.1.1 ∧ S (x + 2) = F.2.2.1.2.1 ∧ tpF (S (x + 1)) ∧ tpB F.2.2.1.2.1 ∧ (0 ≤ F.2.2.1.1 ∧ F.2.2.1.1 ≤ 500) ∧ S x 13 = F.2.2.1.2.2 ∧ True) ∧
  ((S x 8 = 0 ∧ F.2.2.2.1 = none) ∨ (S x 8 = 1 ∧ ∃ J, F.2.2.2.1 = some J ∧ stR S (x + 40) J ∧ iO F.1 k J)) ∧
  ((∀ i, i < 5 → S (x + 59) i = ((x + 87 + 9 * i : Nat) : Int)) ∧ ((S (x + 55) 2 = -1 ∧ F.2.2.2.2.1 = none) ∨ ∃ K, F.2.2.2.2.1 = some K ∧ K.1.length ≤ 4 ∧ S (x + 55) 2 = (K.1.length : Nat) ∧ S (x + 55) 3 = K.2 ∧ ∀ j, j < K.1.length → S (x + 56) j = (K.1.getD j 0 : Nat))) ∧
  ((∀ j, j < 7 → S (x + 136) j = ((x + 137 + j : Nat) : Int)) ∧ ((F.2.2.2.2.2 = none ∧ ∀ j, j < 10 → S (x + 133) j = 0) ∨ ∃ V, F.2.2.2.2.2 = some V ∧ V.1 < 1024 ∧ (∀ j, j < 10 → S (x + 133) j = btN V.1 j) ∧ ∀ j, j < 10 → btN V.1 j = 1 → S (x + 134) j = V.2 j))
theorem scOk.dO {S : Nat → Nat → Int} {s : Nat} {D : Nat → Nat → Int} (h : scOk S s) (e : S s = D 0) : dO D := by
  have := h.1
  rw [e] at this
  exact ⟨this.1, this.2.1⟩
theorem cR.sA0 {T : Nat → Nat × Nat} {S : Nat → Nat → Int} {x sA sB : Nat} {k : Int} {F : fS} (h : cR T S x sA sB k F) : S sA = F.1 0 := h.2.1.2.2.2 0 (by decide)
theorem cR.dO {T : Nat → Nat × Nat} {S : Nat → Nat → Int} {x sA sB : Nat} {k : Int} {F : fS} (h : cR T S x sA sB k F) : dO F.1 := h.2.1.2.2.1.dO h.sA0
/-- nothing of it changes -/
theorem cR.eq {T : Nat → Nat × Nat} {S S' : Nat → Nat → Int} {x sA sB : Nat} {k : Int} {F : fS} (h : cR T S x sA sB k F) (e : ∀ a, x ≤ a → a < x + 148 → (a < x + 46 ∨ x + 55 ≤ a) → (a < x + 57 ∨ x + 58 < a) → (a < x + 60 ∨ x + 132 ≤ a) → (a < x + 145) → a ≠ x + 55 → S' a = S a) (e2 : S' (x + 55) 2 = S (x + 55) 2 ∧ S' (x + 55) 3 = S (x + 55) 3) : cR T S' x sA sB k F := by
  obtain ⟨⟨l10, hs, hk⟩, ⟨a1, a2, a3, a4⟩, ⟨b1, b2, b3⟩, ⟨c1, c2, c3, c4, c5, c6, c7⟩, d1, ⟨e0, e1⟩, f0, f1⟩ := h
  have g : ∀ a, x ≤ a → a < x + 46 → S' a = S a := fun a h1 h2 => e a (by omega) (by omega) (by omega) (by omega) (by omega) (by omega) (by omega)
  have gs : ∀ a, sA ≤ a → a < sA + 8 → S' a = S a := fun a h1 h2 => g a (by omega) (by omega)
  refine ⟨⟨l10, hs, hk⟩, ⟨?_, ?_, a3.eq gs, fun j hj => ?_⟩, ⟨b1.eq (fun a h1 h2 => g a (by omega) (by omega)), b2, b3.eq (fun a h1 h2 => g a (by omega) (by omega))⟩, ⟨?_, ?_, ?_, c4, c5, ?_, c7⟩, ?_, ⟨fun i hi => ?_, ?_⟩, fun j hj => ?_, ?_⟩
  · rw [g x (by omega) (by omega)]
    exact a1
  · rw [g x (by omega) (by omega)]
    exact a2
  · rw [gs _ (by omega) (by omega)]
    exact a4 j hj
  · rw [g _ (by omega) (by omega)]
    exact c1
  · rw [g _ (by omega) (by omega)]
    exact c2
  · rw [g _ (by omega) (by omega)]
    exact c3
  · rw [g x (by omega) (by omega)]
    exact c6
  · rw [g x (by omega) (by omega)]
    rcases d1 with d1 | ⟨d1, J, d2, d3, d4⟩
    · exact .inl d1
    · exact .inr ⟨d1, J, d2, d3.eq (fun a h1 h2 => g a (by omega) (by omega)), d4⟩
  · rw [e _ (by omega) (by omega) (by omega) (by omega) (by omega) (by omega) (by omega)]
    exact e0 i hi
  · rw [e2.1, e2.2, e (x + 56) (by omega) (by omega) (by omega) (by omega) (by omega) (by omega) (by omega)]
    exact e1
  · rw [e _ (by omega) (by omega) (by omega) (by omega) (by omega) (by omega) (by omega)]
    exact f0 j hj
  · rw [e (x + 133) (by omega) (by omega) (by omega) (by omega) (by omega) (by omega) (by omega), e (x + 134) (by omega) (by omega) (by omega) (by omega) (by omega) (by omega) (by omega)]
    exact f1
theorem iO.le {D : Nat → Nat → Int} {k l : Int} {I : iS} (h : iO D k I) (hl : k ≤ l) : iO D l I := ⟨h.1, h.2.1, fun j hj => by have := h.2.2 j hj; omega⟩
theorem cR.le {T : Nat → Nat × Nat} {S : Nat → Nat → Int} {x sA sB : Nat} {k l : Int} {F : fS} (h : cR T S x sA sB k F) (hl : k ≤ l) (h2 : l ≤ 50000) : cR T S x sA sB l F := by
  obtain ⟨⟨l10, hs, hk⟩, ha, ⟨b1, b2, b3⟩, hc, d1, he, hf⟩ := h
  refine ⟨⟨l10, hs, by omega⟩, ha, ⟨b1, b2.le hl, b3⟩, hc, ?_, he, hf⟩
  rcases d1 with d1 | ⟨d1, J, d2, d3, d4⟩
  · exact .inl d1
  · exact .inr ⟨d1, J, d2, d3, d4.le hl⟩
def thc (c : pm_M × pm_C) : pm_M × pm_C := ((c.1.1 + 1, c.1.2.1, c.1.2.2.1 + 1, c.1.2.2.2 + 6), c.2)
theorem zh_thrown {T : Nat → Nat × Nat} {S : Nat → Nat → Int} {c : pm_M × pm_C} : pm_thrown (zh T S c) = zh T S (thc c) := rfl
/-- a call of the face: what comes of it, and the state behind it -/
def opR (d tm : Nat) (ls : List Value) (T : Nat → Nat × Nat) (S : Nat → Nat → Int) (c : pm_M × pm_C) (x : Nat) (k : Int) (P : (Int ⊕ String) → fS → Prop) : Prop :=
  ∃ (r : Int ⊕ String) (S' : Nat → Nat → Int) (F' : fS) (sA sB : Nat), px_R d tm ls (zh T S c) (match r with | .inl v => .inl (some (.int (zI v))) | .inr E => .inr E) (zh T S' (match r with | .inl _ => c | .inr _ => thc c)) ∧ (∀ a, (a < x ∨ x + 148 ≤ a) → S' a = S a) ∧ cR T S' x sA sB k F' ∧ P r F'
theorem opR_val {d tm : Nat} {ls : List Value} {T : Nat → Nat × Nat} {S S' : Nat → Nat → Int} {c : pm_M × pm_C} {x sA sB : Nat} {k : Int} {P : (Int ⊕ String) → fS → Prop} {v : Int} {F' : fS} (h : px_R d tm ls (zh T S c) (.inl (some (.int (zI v)))) (zh T S' c)) (hf : ∀ a, (a < x ∨ x + 148 ≤ a) → S' a = S a) (hc : cR T S' x sA sB k F') (hp : P (.inl v) F') : opR d tm ls T S c x k P := ⟨.inl v, S', F', sA, sB, h, hf, hc, hp⟩
theorem opR_thr {d tm : Nat} {ls : List Value} {T : Nat → Nat × Nat} {S S' : Nat → Nat → Int} {c : pm_M × pm_C} {x sA sB : Nat} {k : Int} {P : (Int ⊕ String) → fS → Prop} {E : String} {F' : fS} (h : px_R d tm ls (zh T S c) (.inr E) (zh T S' (thc c))) (hf : ∀ a, (a < x ∨ x + 148 ≤ a) → S' a = S a) (hc : cR T S' x sA sB k F') (hp : P (.inr E) F') : opR d tm ls T S c x k P := ⟨.inr E, S', F', sA, sB, h, hf, hc, hp⟩
def rg (x : Int) : Prop := -2147483648 ≤ x ∧ x ≤ 2147483647
section FACE
variable {T : Nat → Nat × Nat} {S : Nat → Nat → Int} {c : pm_M × pm_C} {x sA sB : Nat} {k : Int} {F : fS}
theorem o_fault (h : cR T S x sA sB k F) : opR 0 105 [.ref x] T S c x k (fun r F' => r = .inl F.2.2.1.2.2 ∧ F' = F) := by
  have tx : T x = (11, 0) := h.1.1.1
  have e := h.2.2.2.1.2.2.2.2.2.1
  refine opR_val (S' := S) (px_ofQ fun Q hQ => ?_) (fun a _ => rfl) h ⟨rfl, rfl⟩
  (simp (disch := first | with_reducible assumption | omega | decide | (simp only [ps_low, List.map_cons, List.map_nil, Value.category, List.sum_cons, List.sum_nil]; decide)) only [el_X10_fault_0, el_X10_fault_1, el_X10_fault_4, gf_10_13, px_ifp, px_ifn, zh_1, zc_1, zc_2, zc_3, zc_4, zc_5, zc_6, zc_7, zc_8, zc_9, zc_10, zc_11, zc_12, zc_20, zc_21, zc_22, zp_1, zp_2, zp_3, zp_4, zp_5, zp_6, zp_7, zp_8, zp_9, zp_10, zp_11, zp_12, zp_20, zp_21, zp_22, upS_eq, upS_ne, upS_up, upz_eq, upz_ne, upz_up, px_al_aI, px_as_aI, px_as_aZ, px_as_aC, px_ln_aI, Option.toList, List.cons_append, List.nil_append, Int.reduceAdd, Int.reduceSub, Int.reduceMul, ↓reduceIte, Nat.reduceEqDiff, eq_self, Int.reduceEq, Int.reduceLT, Int.reduceLE, Int.reduceNe, Int.reduceNeg, Int.reduceToNat, ne_eq, not_true_eq_false, not_false_eq_true, tx, e]; repeat (first | simp (disch := first | omega | decide) only [upz_srt, upy_upz, upz_up, upS_srt, upT_upS, upS_up] | simp (disch := first | with_reducible assumption | omega | decide | (simp only [ps_low, List.map_cons, List.map_nil, Value.category, List.sum_cons, List.sum_nil]; decide)) only [el_X10_fault_0, el_X10_fault_1, el_X10_fault_4, gf_10_13, px_ifp, px_ifn, zh_1, zc_1, zc_2, zc_3, zc_4, zc_5, zc_6, zc_7, zc_8, zc_9, zc_10, zc_11, zc_12, zc_20, zc_21, zc_22, zp_1, zp_2, zp_3, zp_4, zp_5, zp_6, zp_7, zp_8, zp_9, zp_10, zp_11, zp_12, zp_20, zp_21, zp_22, upS_eq, upS_ne, upS_up, upz_eq, upz_ne, upz_up, px_al_aI, px_as_aI, px_as_aZ, px_as_aC, px_ln_aI, Option.toList, List.cons_append, List.nil_append, Int.reduceAdd, Int.reduceSub, Int.reduceMul, ↓reduceIte, Nat.reduceEqDiff, eq_self, Int.reduceEq, Int.reduceLT, Int.reduceLE, Int.reduceNe, Int.reduceNeg, Int.reduceToNat, ne_eq, not_true_eq_false, not_false_eq_true, tx, e]))
  exact hQ
/-- feed -/
def fdF (b : Nat → Int) (n : Nat) (v : Int32) : Nat → Int := upz (upz (upz (upz b n (bt v 24)) (n + 1) (bt v 16)) (n + 2) (bt v 8)) (n + 3) (bt v 0)
def fdA (b : Nat → Int) (n : Nat) (l : List Int32) : Nat → Int := match l with
  | [] => b
  | v :: r => fdA (fdF b n v) (n + 4) r
theorem tpB_fd {b : Nat → Int} {n : Nat} {v : Int32} (h : tpB b) : tpB (fdF b n v) := by
  intro j hj
  have r1 := bt_r v 24
  have r2 := bt_r v 16
  have r3 := bt_r v 8
  have r4 := bt_r v 0
  unfold fdF upz
  repeat' split
  all_goals first
    | assumption
    | exact h j hj
theorem z_put {t n : Nat} {b : Nat → Int} {v : Int32} (ht : ly9 T t) (h0 : S t 0 = n) (hn : n ≤ 496) (hb : S (t + 1) = b) : ∃ S', px_R 0 86 [.ref t, .int v, .retAddr 0] (zh T S c) (.inl none) (zh T S' c) ∧ (∀ a, a ≠ t → a ≠ t + 1 → S' a = S a) ∧ S' t = upz (S t) 0 ((n + 4 : Nat) : Int) ∧ S' (t + 1) = fdF b n v := by
  have := c_put (T := T) (S := S) (c := c) (t := t) (x := v) ht (by omega)
  refine ⟨_, this, fun a h1 h2 => by rw [upS_ne h2, upS_ne h1], ?_, ?_⟩
  · rw [upS_ne (by omega), upS_eq, h0]
    rfl
  · rw [upS_eq, hb, h0]
    unfold fdF
    rw [show ((n : Int)).toNat = n by omega, show ((n : Int) + 1).toNat = n + 1 by omega, show ((n : Int) + 2).toNat = n + 2 by omega, show ((n : Int) + 3).toNat = n + 3 by omega]
theorem o_feed {v1 v2 v3 v4 v5 : Int32} (h : cR T S x sA sB k F) : opR 1 102 [.ref x, .int v1, .int v2, .int v3, .int v4, .int v5] T S c x k (fun r F' => (480 < F.2.2.1.1 ∧ r = .inl (-1) ∧ F' = F) ∨ (F.2.2.1.1 ≤ 480 ∧ r = .inl (F.2.2.1.1 + 20) ∧ F' = (F.1, F.2.1, (F.2.2.1.1 + 20, fdA F.2.2.1.2.1 F.2.2.1.1.toNat [v1, v2, v3, v4, v5], F.2.2.1.2.2), F.2.2.2))) := by
  obtain ⟨⟨l10, hs, hk⟩, ⟨a1, a2, a3, a4⟩, ⟨b1, b2, b3⟩, ⟨c1, c2, c3, c4, c5, c6, c7⟩, d1, ⟨e0, e1⟩, f0, f1⟩ := id h
  obtain ⟨t0, tL1, tL3, tL6, tL9, tL17, tL25, tL34, tL40, tL46, tL55, tL132, tL145⟩ := id l10
  obtain ⟨u0, u1⟩ := id tL1
  by_cases g : 480 < F.2.2.1.1
  · refine opR_val (S' := S) (v := -1) (px_ofQ fun Q hQ => ?_) (fun a _ => rfl) h (.inl ⟨g, rfl, rfl⟩)
    (simp (disch := first | with_reducible assumption | omega | decide | (simp only [ps_low, List.map_cons, List.map_nil, Value.category, List.sum_cons, List.sum_nil]; decide)) only [el_X10_feed_0, el_X10_feed_1, el_X10_feed_4, el_X10_feed_7, el_X10_feed_10, el_X10_feed_13, el_X10_feed_14, el_X10_feed_15, el_X10_feed_16, el_X10_feed_19, el_X10_feed_23, el_X10_feed_24, el_X10_feed_27, el_X10_feed_31, el_X10_feed_32, el_X10_feed_35, el_X10_feed_39, el_X10_feed_40, el_X10_feed_43, el_X10_feed_48, el_X10_feed_49, el_X10_feed_52, el_X10_feed_57, el_X10_feed_58, el_X10_feed_61, el_X10_feed_64, gf_10_0, gf_9_0, px_ifp, px_ifn, zh_1, zc_1, zc_2, zc_3, zc_4, zc_5, zc_6, zc_7, zc_8, zc_9, zc_10, zc_11, zc_12, zc_20, zc_21, zc_22, zp_1, zp_2, zp_3, zp_4, zp_5, zp_6, zp_7, zp_8, zp_9, zp_10, zp_11, zp_12, zp_20, zp_21, zp_22, upS_eq, upS_ne, upS_up, upz_eq, upz_ne, upz_up, px_al_aI, px_as_aI, px_as_aZ, px_as_aC, px_ln_aI, Option.toList, List.cons_append, List.nil_append, Int.reduceAdd, Int.reduceSub, Int.reduceMul, ↓reduceIte, Nat.reduceEqDiff, eq_self, Int.reduceEq, Int.reduceLT, Int.reduceLE, Int.reduceNe, Int.reduceNeg, Int.reduceToNat, ne_eq, not_true_eq_false, not_false_eq_true, t0, u0, u1, c1]; repeat (first | simp (disch := first | omega | decide) only [upz_srt, upy_upz, upz_up, upS_srt, upT_upS, upS_up] | simp (disch := first | with_reducible assumption | omega | decide | (simp only [ps_low, List.map_cons, List.map_nil, Value.category, List.sum_cons, List.sum_nil]; decide)) only [el_X10_feed_0, el_X10_feed_1, el_X10_feed_4, el_X10_feed_7, el_X10_feed_10, el_X10_feed_13, el_X10_feed_14, el_X10_feed_15, el_X10_feed_16, el_X10_feed_19, el_X10_feed_23, el_X10_feed_24, el_X10_feed_27, el_X10_feed_31, el_X10_feed_32, el_X10_feed_35, el_X10_feed_39, el_X10_feed_40, el_X10_feed_43, el_X10_feed_48, el_X10_feed_49, el_X10_feed_52, el_X10_feed_57, el_X10_feed_58, el_X10_feed_61, el_X10_feed_64, gf_10_0, gf_9_0, px_ifp, px_ifn, zh_1, zc_1, zc_2, zc_3, zc_4, zc_5, zc_6, zc_7, zc_8, zc_9, zc_10, zc_11, zc_12, zc_20, zc_21, zc_22, zp_1, zp_2, zp_3, zp_4, zp_5, zp_6, zp_7, zp_8, zp_9, zp_10, zp_11, zp_12, zp_20, zp_21, zp_22, upS_eq, upS_ne, upS_up, upz_eq, upz_ne, upz_up, px_al_aI, px_as_aI, px_as_aZ, px_as_aC, px_ln_aI, Option.toList, List.cons_append, List.nil_append, Int.reduceAdd, Int.reduceSub, Int.reduceMul, ↓reduceIte, Nat.reduceEqDiff, eq_self, Int.reduceEq, Int.reduceLT, Int.reduceLE, Int.reduceNe, Int.reduceNeg, Int.reduceToNat, ne_eq, not_true_eq_false, not_false_eq_true, t0, u0, u1, c1]))
    exact hQ
  · obtain ⟨n, hn⟩ : ∃ n : Nat, F.2.2.1.1 = n := ⟨F.2.2.1.1.toNat, by omega⟩
    obtain ⟨S1, r1, g1, p1, q1⟩ := z_put (c := c) (S := S) (v := v1) tL1 (c1.trans hn) (by omega) c2
    obtain ⟨S2, r2, g2, p2, q2⟩ := z_put (c := c) (S := S1) (v := v2) tL1 (by rw [p1]; rfl) (by omega) q1
    obtain ⟨S3, r3, g3, p3, q3⟩ := z_put (c := c) (S := S2) (v := v3) tL1 (by rw [p2]; rfl) (by omega) q2
    obtain ⟨S4, r4, g4, p4, q4⟩ := z_put (c := c) (S := S3) (v := v4) tL1 (by rw [p3]; rfl) (by omega) q3
    obtain ⟨S5, r5, g5, p5, q5⟩ := z_put (c := c) (S := S4) (v := v5) tL1 (by rw [p4]; rfl) (by omega) q4
    have al : ∀ a, a ≠ x + 1 → a ≠ x + 2 → S5 a = S a := fun a h1 h2 => by rw [g5 a h1 h2, g4 a h1 h2, g3 a h1 h2, g2 a h1 h2, g1 a h1 h2]
    have ep : S5 (x + 1) = upz (S (x + 1)) 0 ((n + 20 : Nat) : Int) := by rw [p5, p4, p3, p2, p1, upz_up, upz_up, upz_up, upz_up]
    have e20 : S5 (x + 1) 0 = (n : Int) + 20 := by rw [ep]; rfl
    refine opR_val (S' := S5) (v := F.2.2.1.1 + 20) (sA := sA) (sB := sB) (px_ofQ fun Q hQ => ?_) (fun a ha => al a (by omega) (by omega)) ?_ (.inr ⟨by omega, rfl, rfl⟩)
    · rw [hn] at hQ
      have c1' := c1.trans hn
      (simp (disch := first | with_reducible assumption | omega | decide | (simp only [ps_low, List.map_cons, List.map_nil, Value.category, List.sum_cons, List.sum_nil]; decide)) only [el_X10_feed_0, el_X10_feed_1, el_X10_feed_4, el_X10_feed_7, el_X10_feed_10, el_X10_feed_13, el_X10_feed_14, el_X10_feed_15, el_X10_feed_16, el_X10_feed_19, el_X10_feed_23, el_X10_feed_24, el_X10_feed_27, el_X10_feed_31, el_X10_feed_32, el_X10_feed_35, el_X10_feed_39, el_X10_feed_40, el_X10_feed_43, el_X10_feed_48, el_X10_feed_49, el_X10_feed_52, el_X10_feed_57, el_X10_feed_58, el_X10_feed_61, el_X10_feed_64, gf_10_0, gf_9_0, px_ifp, px_ifn, zh_1, zc_1, zc_2, zc_3, zc_4, zc_5, zc_6, zc_7, zc_8, zc_9, zc_10, zc_11, zc_12, zc_20, zc_21, zc_22, zp_1, zp_2, zp_3, zp_4, zp_5, zp_6, zp_7, zp_8, zp_9, zp_10, zp_11, zp_12, zp_20, zp_21, zp_22, upS_eq, upS_ne, upS_up, upz_eq, upz_ne, upz_up, px_al_aI, px_as_aI, px_as_aZ, px_as_aC, px_ln_aI, Option.toList, List.cons_append, List.nil_append, Int.reduceAdd, Int.reduceSub, Int.reduceMul, ↓reduceIte, Nat.reduceEqDiff, eq_self, Int.reduceEq, Int.reduceLT, Int.reduceLE, Int.reduceNe, Int.reduceNeg, Int.reduceToNat, ne_eq, not_true_eq_false, not_false_eq_true, t0, u0, u1, c1', el_X10_feed_20 (r1 ..) _ (zo_10 _) _, el_X10_feed_28 (r2 ..) _ (zo_10 _) _, el_X10_feed_36 (r3 ..) _ (zo_10 _) _, el_X10_feed_45 (r4 ..) _ (zo_10 _) _, el_X10_feed_54 (r5 ..) _ (zo_10 _) _, e20]; repeat (first | simp (disch := first | omega | decide) only [upz_srt, upy_upz, upz_up, upS_srt, upT_upS, upS_up] | simp (disch := first | with_reducible assumption | omega | decide | (simp only [ps_low, List.map_cons, List.map_nil, Value.category, List.sum_cons, List.sum_nil]; decide)) only [el_X10_feed_0, el_X10_feed_1, el_X10_feed_4, el_X10_feed_7, el_X10_feed_10, el_X10_feed_13, el_X10_feed_14, el_X10_feed_15, el_X10_feed_16, el_X10_feed_19, el_X10_feed_23, el_X10_feed_24, el_X10_feed_27, el_X10_feed_31, el_X10_feed_32, el_X10_feed_35, el_X10_feed_39, el_X10_feed_40, el_X10_feed_43, el_X10_feed_48, el_X10_feed_49, el_X10_feed_52, el_X10_feed_57, el_X10_feed_58, el_X10_feed_61, el_X10_feed_64, gf_10_0, gf_9_0, px_ifp, px_ifn, zh_1, zc_1, zc_2, zc_3, zc_4, zc_5, zc_6, zc_7, zc_8, zc_9, zc_10, zc_11, zc_12, zc_20, zc_21, zc_22, zp_1, zp_2, zp_3, zp_4, zp_5, zp_6, zp_7, zp_8, zp_9, zp_10, zp_11, zp_12, zp_20, zp_21, zp_22, upS_eq, upS_ne, upS_up, upz_eq, upz_ne, upz_up, px_al_aI, px_as_aI, px_as_aZ, px_as_aC, px_ln_aI, Option.toList, List.cons_append, List.nil_append, Int.reduceAdd, Int.reduceSub, Int.reduceMul, ↓reduceIte, Nat.reduceEqDiff, eq_self, Int.reduceEq, Int.reduceLT, Int.reduceLE, Int.reduceNe, Int.reduceNeg, Int.reduceToNat, ne_eq, not_true_eq_false, not_false_eq_true, t0, u0, u1, c1', el_X10_feed_20 (r1 ..) _ (zo_10 _) _, el_X10_feed_28 (r2 ..) _ (zo_10 _) _, el_X10_feed_36 (r3 ..) _ (zo_10 _) _, el_X10_feed_45 (r4 ..) _ (zo_10 _) _, el_X10_feed_54 (r5 ..) _ (zo_10 _) _, e20]))
      exact hQ
    · have gs : ∀ a, sA ≤ a → a < sA + 8 → S5 a = S a := fun a h1 h2 => al a (by omega) (by omega)
      refine ⟨⟨l10, hs, hk⟩, ⟨?_, ?_, a3.eq gs, fun j hj => ?_⟩, ⟨b1.eq (fun a h1 h2 => al a (by omega) (by omega)), b2, b3.eq (fun a h1 h2 => al a (by omega) (by omega))⟩, ⟨?_, ?_, ?_, ?_, ?_, ?_, c7⟩, ?_, ⟨fun i hi => ?_, ?_⟩, fun j hj => ?_, ?_⟩
      · rw [al x (by omega) (by omega)]
        exact a1
      · rw [al x (by omega) (by omega)]
        exact a2
      · rw [gs _ (by omega) (by omega)]
        exact a4 j hj
      · rw [e20, ← hn]
      · rw [q5]
        unfold fdA fdA fdA fdA fdA fdA
        rw [show F.2.2.1.1.toNat = n by omega]
      · rw [ep]
        exact c3
      · change tpB (fdA F.2.2.1.2.1 F.2.2.1.1.toNat [v1, v2, v3, v4, v5])
        unfold fdA fdA fdA fdA fdA fdA
        exact tpB_fd (tpB_fd (tpB_fd (tpB_fd (tpB_fd c4))))
      · change 0 ≤ F.2.2.1.1 + 20 ∧ F.2.2.1.1 + 20 ≤ 500
        omega
      · rw [al x (by omega) (by omega)]
        exact c6
      · rw [al x (by omega) (by omega)]
        rcases d1 with d1 | ⟨d1, J, d2, d3, d4⟩
        · exact .inl d1
        · exact .inr ⟨d1, J, d2, d3.eq (fun a h1 h2 => al a (by omega) (by omega)), d4⟩
      · rw [al _ (by omega) (by omega)]
        exact e0 i hi
      · rw [al (x + 55) (by omega) (by omega), al (x + 56) (by omega) (by omega)]
        exact e1
      · rw [al _ (by omega) (by omega)]
        exact f0 j hj
      · rw [al (x + 133) (by omega) (by omega), al (x + 134) (by omega) (by omega)]
        exact f1
end FACE
