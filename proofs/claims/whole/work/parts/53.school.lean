/-! A SCHOOL'S TEXT: the tape's fields F, the School's cells D, what is told E, as functions -/
abbrev pS : Type := (Nat → Int) × (Nat → Nat → Int) × (Nat → Nat → Int)
def upR (D : Nat → Nat → Int) (k : Nat) (f : Nat → Int) : Nat → Nat → Int := fun j => if j = k then f else D j
def smF (b F : Nat → Int) : Nat → Int := adv b (if F 5 = 3 then F else rfF 1 F)
def r3F (x : Int) (F : Nat → Int) : Nat → Int := if x = 0 then F else rfF 3 F
/-- a number is taken: what is left -/
def tnF (b : Nat → Int) (lo hi : Int) (F : Nat → Int) : Nat → Int := adv b (nhF lo hi F)
def rdSheet (b : Nat → Int) (P : pS) : pS :=
  (tnF b 1 8 (tnF b 1 8 (adv b (r3F (P.2.2 0 0) P.1))), upR P.2.1 0 (upz (upz (P.2.1 0) 0 (nhV 1 8 (adv b (r3F (P.2.2 0 0) P.1)))) 1 (nhV 1 8 (tnF b 1 8 (adv b (r3F (P.2.2 0 0) P.1))))), upR P.2.2 0 (upz (P.2.2 0) 0 1))
def rdTower (b : Nat → Int) (P : pS) : pS :=
  (tnF b 1 200 (adv b (r3F (P.2.2 0 1) P.1)), upR P.2.1 0 (upz (P.2.1 0) 2 (nhV 1 200 (adv b (r3F (P.2.2 0 1) P.1)))), upR P.2.2 0 (upz (P.2.2 0) 1 1))
def rdWindow (b : Nat → Int) (P : pS) : pS :=
  let F1 := adv b (r3F (P.2.2 0 2) P.1)
  let F2 := tnF b 1 200 F1
  let F3 := tnF b 0 200 F2
  (tnF b (nhV 0 200 F2) 200 F3, upR P.2.1 0 (upz (upz (upz (P.2.1 0) 3 (nhV 1 200 F1)) 4 (nhV 0 200 F2)) 5 (nhV (nhV 0 200 F2) 200 F3)), upR P.2.2 0 (upz (P.2.2 0) 2 1))
/-- the number of a nosiness or a minute -/
def utV (F : Nat → Int) : Nat := (nhV 0 9 F).toNat
def utF (b : Nat → Int) (e F : Nat → Int) : Nat → Int := adv b (r3F (e (utV F)) (nhF 0 9 F))
def rdTable (b : Nat → Int) (P : pS) : pS :=
  let F1 := adv b P.1
  let F2 := utF b (P.2.2 1) F1
  let F3 := tnF b 0 20 F2
  (tnF b 0 20 F3, upR (upR P.2.1 1 (upz (P.2.1 1) (utV F1) (nhV 0 20 F2))) 2 (upz (P.2.1 2) (utV F1) (nhV 0 20 F3)), upR P.2.2 1 (upz (P.2.2 1) (utV F1) 1))
def rdWind (b : Nat → Int) (P : pS) : pS :=
  let F1 := adv b P.1
  let F2 := utF b (P.2.2 2) F1
  let F3 := tgF b 5 F2
  let F4 := tgF b 5 F3
  (if F4 5 = 2 then tnF b 0 99 F4 else F4, upR (upR (upR P.2.1 3 (upz (P.2.1 3) (utV F1) (tgV b 5 F2))) 4 (upz (P.2.1 4) (utV F1) (tgV b 5 F3))) 5 (upz (P.2.1 5) (utV F1) (if F4 5 = 2 then nhV 0 99 F4 else 1)), upR P.2.2 2 (upz (P.2.2 2) (utV F1) 1))
def knB (D : Nat → Nat → Int) (x y : Int) : Bool := (List.range (D 0 6).toNat).any fun i => decide (D 6 i = x) && decide (D 7 i = y)
def adK (D : Nat → Nat → Int) (x y : Int) : Nat → Nat → Int := if D 0 6 < 10 then upR (upR (upR D 0 (upz (D 0) 6 (D 0 6 + 1))) 6 (upz (D 6) (D 0 6).toNat x)) 7 (upz (D 7) (D 0 6).toNat y) else D
def rdKnown (b : Nat → Int) (P : pS) : pS :=
  let F2 := adv b (if 10 ≤ P.2.1 0 6 then rfF 2 P.1 else P.1)
  let F3 := tsF b F2
  let F4 := nhF 1 4 F3
  (adv b (if knB P.2.1 (tsV b F2) (nhV 1 4 F3) = true then rfF 4 F4 else F4), adK P.2.1 (tsV b F2) (nhV 1 4 F3), P.2.2)
def rdLine (b : Nat → Int) (P : pS) : pS :=
  let P1 := if wdB b P.1 (po_code 4) = true then rdSheet b P else if wdB b P.1 (po_code 5) = true then rdTable b P else if wdB b P.1 (po_code 6) = true then rdWind b P else if wdB b P.1 (po_code 7) = true then rdTower b P
    else if wdB b P.1 (po_code 8) = true then rdWindow b P else if wdB b P.1 (po_code 9) = true then rdKnown b P else (rfF 1 P.1, P.2)
  (smF b P1.1, P1.2)
def rdLines (b : Nat → Int) : Nat → pS → pS
  | 0, P => P
  | k + 1, P => if P.1 1 = 0 ∧ P.1 5 ≠ 0 then rdLines b k (rdLine b P) else P
/-- as it is before the first line -/
def rdInit (P : pS) : pS := (P.1, fun k => if k = 0 then unF (P.2.1 0) else if k = 1 then unfF (P.2.1 1) 10 else if k = 2 then unfS (P.2.1 2) 10 else if k = 3 then filS (P.2.1 3) 0 else if k = 4 then filS (P.2.1 4) 0 else if k = 5 then filS (P.2.1 5) 1 else P.2.1 k,
  fun k => if k = 0 then upz (upz (upz (P.2.2 0) 0 0) 1 0) 2 0 else fun j => if j < 10 then 0 else P.2.2 k j)
def rdUsual (P : pS) : pS := if P.2.1 0 6 = 0 then (P.1, fun k => if k = 0 then upz (P.2.1 0) 6 8 else if k = 6 then usK (P.2.1 6) (fun j => ((j / 2 : Nat) : Int)) else if k = 7 then usK (P.2.1 7) (fun j => ((1 + j % 2 : Nat) : Int)) else P.2.1 k, P.2.2) else P
/-- what may be of them -/
def pO (P : pS) : Prop := tpF P.1 ∧ (0 ≤ P.2.1 0 6 ∧ P.2.1 0 6 ≤ 10) ∧ (∀ i : Nat, (i : Int) < P.2.1 0 6 → (0 ≤ P.2.1 6 i ∧ P.2.1 6 i ≤ 3) ∧ 1 ≤ P.2.1 7 i ∧ P.2.1 7 i ≤ 4) ∧ ((∀ j, j < 3 → P.2.2 0 j = 0 ∨ P.2.2 0 j = 1) ∧ ∀ k j, 1 ≤ k → k ≤ 2 → j < 10 → P.2.2 k j = 0 ∨ P.2.2 k j = 1)
/-- the cells: the Tape at t, its bytes b, the School at s, the SchoolText at x -/
def pR (S : Nat → Nat → Int) (t s x : Nat) (b : Nat → Int) (P : pS) : Prop := S t = P.1 ∧ S (t + 1) = b ∧ (∀ k, k < 8 → S (s + k) = P.2.1 k) ∧ ∀ k, k < 3 → S (x + k) = P.2.2 k
def pL (T : Nat → Nat × Nat) (t s x : Nat) : Prop := ly9 T t ∧ ly4 T s ∧ ly5 T x ∧ (t + 2 ≤ s ∨ s + 8 ≤ t) ∧ (t + 2 ≤ x ∨ x + 3 ≤ t) ∧ (s + 8 ≤ x ∨ x + 3 ≤ s)
def pFr (t s x : Nat) (S S' : Nat → Nat → Int) : Prop := ∀ a, a ≠ t → (a < s ∨ s + 8 ≤ a) → (a < x ∨ x + 3 ≤ a) → S' a = S a
theorem nhV_r {lo hi : Int} {F : Nat → Int} (h : lo ≤ hi) : lo ≤ nhV lo hi F ∧ nhV lo hi F ≤ hi := by
  unfold nhV
  split <;> omega
theorem tsV_r {b F : Nat → Int} : 0 ≤ tsV b F ∧ tsV b F ≤ 3 := by
  have : -1 ≤ sdV b F ∧ sdV b F ≤ 3 := by
    unfold sdV
    repeat' split
    all_goals omega
  unfold tsV
  split <;> omega
theorem tgV_r {b F : Nat → Int} {hi : Int} (h : 0 ≤ hi) : -hi ≤ tgV b hi F ∧ tgV b hi F ≤ hi := by
  unfold tgV
  split
  · have := nhV_r (F := adv b F) h
    omega
  · have := nhV_r (F := F) h
    omega
theorem tpF_r3 {x : Int} {F : Nat → Int} (h : tpF F) : tpF (r3F x F) := by
  unfold r3F
  split
  · exact h
  · exact tpF_rf h (by decide)
theorem tpF_tn {b F : Nat → Int} {lo hi : Int} (h : tpF F) : tpF (tnF b lo hi F) := tpF_adv (tpF_nh h).A
theorem tpF_tg {b F : Nat → Int} {hi : Int} (h : tpF F) : tpF (tgF b hi F) := by
  unfold tgF
  refine tpF_adv (tpF_nh ?_).A
  split
  · exact tpF_adv h.A
  · exact h
theorem tpF_ts {b F : Nat → Int} (h : tpF F) : tpF (tsF b F) := by
  unfold tsF
  split
  · exact tpF_rf h (by decide)
  · exact tpF_adv h.A
theorem tpF_ut {b e F : Nat → Int} (h : tpF F) : tpF (utF b e F) := tpF_adv (tpF_r3 (tpF_nh h)).A
theorem tpF_sm {b F : Nat → Int} (h : tpF F) : tpF (smF b F) := by
  unfold smF
  refine tpF_adv (tpF.A ?_)
  split
  · exact h
  · exact tpF_rf h (by decide)
/-- a refuse that may be -/
theorem upR_eq {D : Nat → Nat → Int} {k : Nat} {f : Nat → Int} : upR D k f k = f := if_pos rfl
theorem upR_ne {D : Nat → Nat → Int} {k j : Nat} {f : Nat → Int} (h : j ≠ k) : upR D k f j = D j := if_neg h
section ZZ
variable {T : Nat → Nat × Nat} {S : Nat → Nat → Int} {c : pm_M × pm_C} {t : Nat} {b F : Nat → Int}
theorem zz_adv (ht : ly9 T t) (e : S t = F) (eb : S (t + 1) = b) (hF : tpF F) (hb : tpB b) : ∃ S', px_R 1 90 [.ref t, .retAddr 0] (zh T S c) (.inl none) (zh T S' c) ∧ S' t = adv b F ∧ ∀ a, a ≠ t → S' a = S a := by
  subst e eb
  exact ⟨_, c_advance ht hF.A hb, upS_eq, fun a h => upS_ne h⟩
theorem zz_ref {k : Int} (ht : ly9 T t) (e : S t = F) (hF : tpF F) : ∃ S', px_R 0 89 [.ref t, .int (zI k)] (zh T S c) (.inl none) (zh T S' c) ∧ S' t = rfF k F ∧ ∀ a, a ≠ t → S' a = S a := by
  subst e
  exact ⟨_, c_refuse ht hF, upS_eq, fun a h => upS_ne h⟩
theorem zz_num {lo hi : Int} (ht : ly9 T t) (e : S t = F) (eb : S (t + 1) = b) (hF : tpF F) (hb : tpB b) (hlo : -1000 ≤ lo ∧ lo ≤ 1000) (hhi : -1000 ≤ hi ∧ hi ≤ 1000) : ∃ S', px_R 2 97 [.ref t, .int (zI lo), .int (zI hi), .retAddr 0] (zh T S c) (.inl (some (.int (zI (nhV lo hi F))))) (zh T S' c) ∧ S' t = tnF b lo hi F ∧ ∀ a, a ≠ t → S' a = S a := by
  subst e eb
  exact ⟨_, c_takeNumber ht hF hb hlo hhi, upS_eq, fun a h => upS_ne h⟩
theorem zz_here {lo hi : Int} (ht : ly9 T t) (e : S t = F) (hF : tpF F) (hlo : -1000 ≤ lo ∧ lo ≤ 1000) (hhi : -1000 ≤ hi ∧ hi ≤ 1000) : ∃ S', px_R 1 96 [.ref t, .int (zI lo), .int (zI hi)] (zh T S c) (.inl (some (.int (zI (nhV lo hi F))))) (zh T S' c) ∧ S' t = nhF lo hi F ∧ ∀ a, a ≠ t → S' a = S a := by
  subst e
  exact ⟨_, c_numberHere ht hF hlo hhi, upS_eq, fun a h => upS_ne h⟩
theorem zz_sig {hi : Int} (ht : ly9 T t) (e : S t = F) (eb : S (t + 1) = b) (hF : tpF F) (hb : tpB b) (hhi : -1000 ≤ hi ∧ hi ≤ 1000) : ∃ S', px_R 2 98 [.ref t, .int (zI hi), .retAddr 0, .retAddr 0] (zh T S c) (.inl (some (.int (zI (tgV b hi F))))) (zh T S' c) ∧ S' t = tgF b hi F ∧ ∀ a, a ≠ t → S' a = S a := by
  subst e eb
  exact ⟨_, c_takeSigned ht hF hb hhi, upS_eq, fun a h => upS_ne h⟩
theorem zz_side (ht : ly9 T t) (e : S t = F) (eb : S (t + 1) = b) (hF : tpF F) (hb : tpB b) (hC : tcx c.2) : ∃ S', px_R 5 99 [.ref t, .retAddr 0] (zh T S c) (.inl (some (.int (zI (tsV b F))))) (zh T S' c) ∧ S' t = tsF b F ∧ ∀ a, a ≠ t → S' a = S a := by
  subst e eb
  exact ⟨_, c_takeSide ht hF hb hC, upS_eq, fun a h => upS_ne h⟩
theorem zz_sem (ht : ly9 T t) (e : S t = F) (eb : S (t + 1) = b) (hF : tpF F) (hb : tpB b) : ∃ S', px_R 2 100 [.ref t] (zh T S c) (.inl none) (zh T S' c) ∧ S' t = smF b F ∧ ∀ a, a ≠ t → S' a = S a := by
  subst e eb
  exact ⟨_, c_takeSemicolon ht hF hb, upS_eq, fun a h => upS_ne h⟩
theorem zz_word {i : Nat} (ht : ly9 T t) (e : S t = F) (eb : S (t + 1) = b) (hF : tpF F) (hb : tpB b) (hC : tcx c.2) (hi : i < 10) : px_R 4 94 [.ref t, .ref (c.2.2.1 i), .retAddr 0] (zh T S c) (.inl (some (.int (zI (if wdB b F (po_code i) = true then 1 else 0))))) (zh T S c) := by
  subst e eb
  exact c_isWord ht hF hb hC hi
end ZZ
/-- told a second time -/
theorem c_readSheet {T : Nat → Nat × Nat} {S : Nat → Nat → Int} {c : pm_M × pm_C} {t s x : Nat} {b : Nat → Int} {P : pS} (hL : pL T t s x) (hP : pR S t s x b P) (hO : pO P) (hb : tpB b) :
    ∃ S', px_R 4 38 [.ref x, .ref t, .ref s] (zh T S c) (.inl none) (zh T S' c) ∧ pFr t s x S S' ∧ pR S' t s x b (rdSheet b P) := by
  obtain ⟨l9, l4, l5, d1, d2, d3⟩ := hL
  obtain ⟨t0, t1⟩ := id l9
  obtain ⟨u0, u1, u2, u3, u4, u5, u6, u7⟩ := id l4
  obtain ⟨v0, v1, v2⟩ := id l5
  obtain ⟨p1, p2, p3, p4⟩ := hP
  obtain ⟨o1, o2, o3, o4, o5⟩ := hO
  have x0 := p4 0 (by decide)
  have s0 := p3 0 (by decide)
  rw [Nat.add_zero] at x0 s0
  have e0 := o4 0 (by decide)
  unfold rdSheet
  -- the first step: refused if told
  have st1 : ∃ S1, S1 t = r3F (P.2.2 0 0) P.1 ∧ (∀ a, a ≠ t → S1 a = S a) ∧ ∀ Q, px_Ev 4 38 12 [.ref x, .ref t, .ref s] [] (zh T S1 c) Q → px_Ev 4 38 0 [.ref x, .ref t, .ref s] [] (zh T S c) Q := by
    unfold r3F
    rcases e0 with e | e
    · refine ⟨S, by rw [if_pos e]; exact p1, fun a _ => rfl, fun Q hQ => ?_⟩
      (simp (disch := first | with_reducible assumption | omega | decide | (simp only [ps_low, List.map_cons, List.map_nil, Value.category, List.sum_cons, List.sum_nil]; decide)) only [el_X5_readSheet_0, el_X5_readSheet_1, el_X5_readSheet_4, el_X5_readSheet_7, el_X5_readSheet_8, gf_5_0, px_ifp, px_ifn, zh_1, zc_1, zc_2, zc_3, zc_4, zc_5, zc_6, zc_7, zc_8, zc_9, zc_10, zc_11, zc_12, zc_20, zc_21, zc_22, zp_1, zp_2, zp_3, zp_4, zp_5, zp_6, zp_7, zp_8, zp_9, zp_10, zp_11, zp_12, zp_20, zp_21, zp_22, upS_eq, upS_ne, upS_up, upz_eq, upz_ne, upz_up, px_al_aI, px_as_aI, px_as_aZ, px_as_aC, px_ln_aI, Option.toList, List.cons_append, List.nil_append, Int.reduceAdd, Int.reduceSub, Int.reduceMul, ↓reduceIte, Nat.reduceEqDiff, eq_self, Int.reduceEq, Int.reduceLT, Int.reduceLE, Int.reduceNe, Int.reduceNeg, Int.reduceToNat, ne_eq, not_true_eq_false, not_false_eq_true, t0, t1, u0, u1, u2, u3, u4, u5, u6, u7, v0, v1, v2, x0, e]; repeat (first | simp (disch := first | omega | decide) only [upz_srt, upy_upz, upz_up, upS_srt, upT_upS, upS_up] | simp (disch := first | with_reducible assumption | omega | decide | (simp only [ps_low, List.map_cons, List.map_nil, Value.category, List.sum_cons, List.sum_nil]; decide)) only [el_X5_readSheet_0, el_X5_readSheet_1, el_X5_readSheet_4, el_X5_readSheet_7, el_X5_readSheet_8, gf_5_0, px_ifp, px_ifn, zh_1, zc_1, zc_2, zc_3, zc_4, zc_5, zc_6, zc_7, zc_8, zc_9, zc_10, zc_11, zc_12, zc_20, zc_21, zc_22, zp_1, zp_2, zp_3, zp_4, zp_5, zp_6, zp_7, zp_8, zp_9, zp_10, zp_11, zp_12, zp_20, zp_21, zp_22, upS_eq, upS_ne, upS_up, upz_eq, upz_ne, upz_up, px_al_aI, px_as_aI, px_as_aZ, px_as_aC, px_ln_aI, Option.toList, List.cons_append, List.nil_append, Int.reduceAdd, Int.reduceSub, Int.reduceMul, ↓reduceIte, Nat.reduceEqDiff, eq_self, Int.reduceEq, Int.reduceLT, Int.reduceLE, Int.reduceNe, Int.reduceNeg, Int.reduceToNat, ne_eq, not_true_eq_false, not_false_eq_true, t0, t1, u0, u1, u2, u3, u4, u5, u6, u7, v0, v1, v2, x0, e]))
      exact hQ
    · obtain ⟨S1, r1, q1, g1⟩ := zz_ref (c := c) (k := 3) l9 p1 o1
      refine ⟨S1, by rw [if_neg (by omega)]; exact q1, g1, fun Q hQ => ?_⟩
      (simp (disch := first | with_reducible assumption | omega | decide | (simp only [ps_low, List.map_cons, List.map_nil, Value.category, List.sum_cons, List.sum_nil]; decide)) only [el_X5_readSheet_0, el_X5_readSheet_1, el_X5_readSheet_4, el_X5_readSheet_7, el_X5_readSheet_8, gf_5_0, px_ifp, px_ifn, zh_1, zc_1, zc_2, zc_3, zc_4, zc_5, zc_6, zc_7, zc_8, zc_9, zc_10, zc_11, zc_12, zc_20, zc_21, zc_22, zp_1, zp_2, zp_3, zp_4, zp_5, zp_6, zp_7, zp_8, zp_9, zp_10, zp_11, zp_12, zp_20, zp_21, zp_22, upS_eq, upS_ne, upS_up, upz_eq, upz_ne, upz_up, px_al_aI, px_as_aI, px_as_aZ, px_as_aC, px_ln_aI, Option.toList, List.cons_append, List.nil_append, Int.reduceAdd, Int.reduceSub, Int.reduceMul, ↓reduceIte, Nat.reduceEqDiff, eq_self, Int.reduceEq, Int.reduceLT, Int.reduceLE, Int.reduceNe, Int.reduceNeg, Int.reduceToNat, ne_eq, not_true_eq_false, not_false_eq_true, t0, t1, u0, u1, u2, u3, u4, u5, u6, u7, v0, v1, v2, x0, e, el_X5_readSheet_9 (r1 ..) _ (zo_10 _) _]; repeat (first | simp (disch := first | omega | decide) only [upz_srt, upy_upz, upz_up, upS_srt, upT_upS, upS_up] | simp (disch := first | with_reducible assumption | omega | decide | (simp only [ps_low, List.map_cons, List.map_nil, Value.category, List.sum_cons, List.sum_nil]; decide)) only [el_X5_readSheet_0, el_X5_readSheet_1, el_X5_readSheet_4, el_X5_readSheet_7, el_X5_readSheet_8, gf_5_0, px_ifp, px_ifn, zh_1, zc_1, zc_2, zc_3, zc_4, zc_5, zc_6, zc_7, zc_8, zc_9, zc_10, zc_11, zc_12, zc_20, zc_21, zc_22, zp_1, zp_2, zp_3, zp_4, zp_5, zp_6, zp_7, zp_8, zp_9, zp_10, zp_11, zp_12, zp_20, zp_21, zp_22, upS_eq, upS_ne, upS_up, upz_eq, upz_ne, upz_up, px_al_aI, px_as_aI, px_as_aZ, px_as_aC, px_ln_aI, Option.toList, List.cons_append, List.nil_append, Int.reduceAdd, Int.reduceSub, Int.reduceMul, ↓reduceIte, Nat.reduceEqDiff, eq_self, Int.reduceEq, Int.reduceLT, Int.reduceLE, Int.reduceNe, Int.reduceNeg, Int.reduceToNat, ne_eq, not_true_eq_false, not_false_eq_true, t0, t1, u0, u1, u2, u3, u4, u5, u6, u7, v0, v1, v2, x0, e, el_X5_readSheet_9 (r1 ..) _ (zo_10 _) _]))
      exact hQ
  obtain ⟨S1, q1, g1, run1⟩ := st1
  have f1 : tpF (r3F (P.2.2 0 0) P.1) := tpF_r3 o1
  generalize r3F (P.2.2 0 0) P.1 = F1 at *
  generalize hS2 : upS S1 x (upz (S1 x) 0 1) = S2
  have k2 : ∀ a, a ≠ x → S2 a = S1 a := fun a h => by rw [← hS2, upS_ne h]
  have m2 : S2 x = upz (P.2.2 0) 0 1 := by rw [← hS2, upS_eq, g1 x (by omega), x0]
  obtain ⟨S3, r3, q3, g3⟩ := zz_adv (c := c) (S := S2) (b := b) l9 (by rw [k2 t (by omega)]; exact q1) (by rw [k2 _ (by omega), g1 _ (by omega)]; exact p2) f1 hb
  have f3 := tpF_adv (b := b) f1.A
  generalize adv b F1 = F3 at *
  obtain ⟨S4, r4, q4, g4⟩ := zz_num (c := c) (S := S3) (b := b) (lo := 1) (hi := 8) l9 q3 (by rw [g3 _ (by omega), k2 _ (by omega), g1 _ (by omega)]; exact p2) f3 hb (by decide) (by decide)
  have f4 := tpF_tn (b := b) (lo := 1) (hi := 8) f3
  have v4 := nhV_r (lo := 1) (hi := 8) (F := F3) (by decide)
  generalize nhV 1 8 F3 = V1 at *
  generalize tnF b 1 8 F3 = F4 at *
  generalize hS5 : upS S4 s (upz (S4 s) 0 V1) = S5
  have k5 : ∀ a, a ≠ s → S5 a = S4 a := fun a h => by rw [← hS5, upS_ne h]
  have m5 : S5 s = upz (P.2.1 0) 0 V1 := by rw [← hS5, upS_eq, g4 s (by omega), g3 s (by omega), k2 s (by omega), g1 s (by omega), s0]
  obtain ⟨S6, r6, q6, g6⟩ := zz_num (c := c) (S := S5) (b := b) (lo := 1) (hi := 8) l9 (by rw [k5 t (by omega)]; exact q4) (by rw [k5 _ (by omega), g4 _ (by omega), g3 _ (by omega), k2 _ (by omega), g1 _ (by omega)]; exact p2) f4 hb (by decide) (by decide)
  have v6 := nhV_r (lo := 1) (hi := 8) (F := F4) (by decide)
  generalize nhV 1 8 F4 = V2 at *
  generalize tnF b 1 8 F4 = F6 at *
  have al : ∀ a, a ≠ t → a ≠ x → a ≠ s → S6 a = S a := fun a h1 h2 h3 => by rw [g6 a h1, k5 a h3, g4 a h1, g3 a h1, k2 a h2, g1 a h1]
  refine ⟨upS S6 s (upz (S6 s) 1 V2), px_ofQ fun Q hQ => run1 Q ?_, fun a h1 h2 h3 => ?_, ?_, ?_, fun k hk => ?_, fun k hk => ?_⟩
  · (simp (disch := first | with_reducible assumption | omega | decide | (simp only [ps_low, List.map_cons, List.map_nil, Value.category, List.sum_cons, List.sum_nil]; decide)) only [el_X5_readSheet_12, el_X5_readSheet_13, el_X5_readSheet_14, el_X5_readSheet_17, el_X5_readSheet_21, el_X5_readSheet_22, el_X5_readSheet_23, el_X5_readSheet_24, el_X5_readSheet_29, el_X5_readSheet_32, el_X5_readSheet_33, el_X5_readSheet_34, el_X5_readSheet_35, el_X5_readSheet_40, el_X5_readSheet_43, pf_4_0, pf_4_1, pf_5_0, px_ifp, px_ifn, zh_1, zc_1, zc_2, zc_3, zc_4, zc_5, zc_6, zc_7, zc_8, zc_9, zc_10, zc_11, zc_12, zc_20, zc_21, zc_22, zp_1, zp_2, zp_3, zp_4, zp_5, zp_6, zp_7, zp_8, zp_9, zp_10, zp_11, zp_12, zp_20, zp_21, zp_22, upS_eq, upS_ne, upS_up, upz_eq, upz_ne, upz_up, px_al_aI, px_as_aI, px_as_aZ, px_as_aC, px_ln_aI, Option.toList, List.cons_append, List.nil_append, Int.reduceAdd, Int.reduceSub, Int.reduceMul, ↓reduceIte, Nat.reduceEqDiff, eq_self, Int.reduceEq, Int.reduceLT, Int.reduceLE, Int.reduceNe, Int.reduceNeg, Int.reduceToNat, ne_eq, not_true_eq_false, not_false_eq_true, t0, t1, u0, u1, u2, u3, u4, u5, u6, u7, v0, v1, v2, hS2, el_X5_readSheet_18 (r3 ..) _ (zo_10 _) _, el_X5_readSheet_26 (r4 ..) _ (zo_10 _) _, hS5, el_X5_readSheet_37 (r6 ..) _ (zo_10 _) _]; repeat (first | simp (disch := first | omega | decide) only [upz_srt, upy_upz, upz_up, upS_srt, upT_upS, upS_up] | simp (disch := first | with_reducible assumption | omega | decide | (simp only [ps_low, List.map_cons, List.map_nil, Value.category, List.sum_cons, List.sum_nil]; decide)) only [el_X5_readSheet_12, el_X5_readSheet_13, el_X5_readSheet_14, el_X5_readSheet_17, el_X5_readSheet_21, el_X5_readSheet_22, el_X5_readSheet_23, el_X5_readSheet_24, el_X5_readSheet_29, el_X5_readSheet_32, el_X5_readSheet_33, el_X5_readSheet_34, el_X5_readSheet_35, el_X5_readSheet_40, el_X5_readSheet_43, pf_4_0, pf_4_1, pf_5_0, px_ifp, px_ifn, zh_1, zc_1, zc_2, zc_3, zc_4, zc_5, zc_6, zc_7, zc_8, zc_9, zc_10, zc_11, zc_12, zc_20, zc_21, zc_22, zp_1, zp_2, zp_3, zp_4, zp_5, zp_6, zp_7, zp_8, zp_9, zp_10, zp_11, zp_12, zp_20, zp_21, zp_22, upS_eq, upS_ne, upS_up, upz_eq, upz_ne, upz_up, px_al_aI, px_as_aI, px_as_aZ, px_as_aC, px_ln_aI, Option.toList, List.cons_append, List.nil_append, Int.reduceAdd, Int.reduceSub, Int.reduceMul, ↓reduceIte, Nat.reduceEqDiff, eq_self, Int.reduceEq, Int.reduceLT, Int.reduceLE, Int.reduceNe, Int.reduceNeg, Int.reduceToNat, ne_eq, not_true_eq_false, not_false_eq_true, t0, t1, u0, u1, u2, u3, u4, u5, u6, u7, v0, v1, v2, hS2, el_X5_readSheet_18 (r3 ..) _ (zo_10 _) _, el_X5_readSheet_26 (r4 ..) _ (zo_10 _) _, hS5, el_X5_readSheet_37 (r6 ..) _ (zo_10 _) _]))
    exact hQ
  · rw [upS_ne (by omega)]
    exact al a h1 (by omega) (by omega)
  · rw [upS_ne (by omega)]
    exact q6
  · rw [upS_ne (by omega), al _ (by omega) (by omega) (by omega)]
    exact p2
  · by_cases hk0 : k = 0
    · subst hk0
      rw [Nat.add_zero, upS_eq, g6 s (by omega), m5]
      rfl
    · rw [upS_ne (by omega), al _ (by omega) (by omega) (by omega)]
      exact (p3 k hk).trans (upR_ne hk0).symm
  · by_cases hk0 : k = 0
    · subst hk0
      rw [Nat.add_zero, upS_ne (by omega), g6 x (by omega), k5 x (by omega), g4 x (by omega), g3 x (by omega), m2]
      rfl
    · rw [upS_ne (by omega), al _ (by omega) (by omega) (by omega)]
      exact (p4 k hk).trans (upR_ne hk0).symm
