/-! THE MODEL'S TEXTS, 4: lines of a School -/
/-- what is read of a School, in the Model's second halves -/
def stgM (S : Nat → Nat → Int) (m : Nat) (D : Nat → Nat → Int) : Prop := (S (m + 2) 7 = D 0 0 ∧ S (m + 2) 8 = D 0 1 ∧ S (m + 2) 9 = D 0 2 ∧ S (m + 2) 10 = D 0 3 ∧ S (m + 2) 11 = D 0 4 ∧ S (m + 2) 12 = D 0 5 ∧ S (m + 2) 13 = D 0 6) ∧
  (∀ j, j < 10 → S (m + 3) (10 + j) = D 1 j ∧ S (m + 4) (10 + j) = D 2 j ∧ S (m + 5) (10 + j) = D 3 j ∧ S (m + 6) (10 + j) = D 4 j ∧ S (m + 7) (10 + j) = D 5 j) ∧ ∀ j : Nat, (j : Int) < D 0 6 → S (m + 8) (10 + j) = 10 * D 6 j + D 7 j
def tbM (S : Nat → Nat → Int) (m : Nat) (E : Nat → Nat → Int) : Prop := (∃ n : Nat, n < 1024 ∧ S m 21 = n ∧ ∀ j, j < 10 → E 1 j = btN n j) ∧ ∃ n : Nat, n < 1024 ∧ S m 22 = n ∧ ∀ j, j < 10 → E 2 j = btN n j
/-- what a line may change -/
def lnF (m : Nat) (S S' : Nat → Nat → Int) : Prop := (∀ a, a ≠ m → (a < m + 2 ∨ m + 8 < a) → S' a = S a) ∧ (∀ j, j ≠ 12 → (j < 14 ∨ 20 ≤ j) → j ≠ 21 → j ≠ 22 → S' m j = S m j) ∧ (∀ j, j < 7 → S' (m + 2) j = S (m + 2) j) ∧ ∀ a j, 3 ≤ a → a ≤ 8 → j < 10 → S' (m + a) j = S (m + a) j
theorem lnF.refl {m : Nat} {S : Nat → Nat → Int} : lnF m S S := ⟨fun _ _ _ => rfl, fun _ _ _ _ _ => rfl, fun _ _ => rfl, fun _ _ _ _ _ => rfl⟩
theorem lnF.trans {m : Nat} {S S' S'' : Nat → Nat → Int} (h : lnF m S S') (k : lnF m S' S'') : lnF m S S'' := ⟨fun a h1 h2 => (k.1 a h1 h2).trans (h.1 a h1 h2), fun j h1 h2 h3 h4 => (k.2.1 j h1 h2 h3 h4).trans (h.2.1 j h1 h2 h3 h4), fun j hj => (k.2.2.1 j hj).trans (h.2.2.1 j hj), fun a j h1 h2 h3 => (k.2.2.2 a j h1 h2 h3).trans (h.2.2.2 a j h1 h2 h3)⟩
theorem lnF.fields {m : Nat} {S : Nat → Nat → Int} {G : Nat → Int} (h : pfM (S m) G) : lnF m S (upS S m G) := ⟨fun a h1 _ => upS_ne h1, fun j h1 h2 _ _ => by rw [upS_eq]; exact h j h1 h2, fun j _ => by rw [upS_ne (by omega)], fun a j _ _ _ => by rw [upS_ne (by omega)]⟩
theorem lnF.told {m k : Nat} {v : Int} {S : Nat → Nat → Int} (hk : 7 ≤ k) : lnF m S (upS S (m + 2) (upz (S (m + 2)) k v)) := ⟨fun a _ h2 => upS_ne (by omega), fun j _ _ _ _ => by rw [upS_ne (by omega)], fun j hj => by rw [upS_eq, upz_ne (by omega)], fun a j h1 _ _ => by rw [upS_ne (by omega)]⟩
theorem lnF.arr {m a0 k : Nat} {v : Int} {S : Nat → Nat → Int} (ha : 3 ≤ a0 ∧ a0 ≤ 8) (hk : 10 ≤ k) : lnF m S (upS S (m + a0) (upz (S (m + a0)) k v)) := ⟨fun a _ h2 => upS_ne (by omega), fun j _ _ _ _ => by rw [upS_ne (by omega)], fun j hj => by rw [upS_ne (by omega)], fun a j h1 h2 h3 => by
  by_cases e : a = a0
  · rw [e, upS_eq, upz_ne (by omega)]
  · rw [upS_ne (by omega)]⟩
theorem lnF.bits {m k : Nat} {v : Int} {S : Nat → Nat → Int} (hk : k = 21 ∨ k = 22) : lnF m S (upS S m (upz (S m) k v)) := ⟨fun a h1 _ => upS_ne h1, fun j _ _ h3 h4 => by rw [upS_eq, upz_ne (by omega)], fun j _ => by rw [upS_ne (by omega)], fun a j _ _ _ => by rw [upS_ne (by omega)]⟩
theorem tnF_ok {b F : Nat → Int} {lo hi : Int} (h : tnF b lo hi F 1 = 0) : F 1 = 0 ∧ nmV lo hi F = nhV lo hi F := by
  have h2 : nhF lo hi F 1 = 0 := h
  refine ⟨Decidable.byContradiction (fun z => ?_), by unfold nmV; rw [if_pos h2]⟩
  rw [nhF_f.2.2.2.2.1 z] at h2
  exact z h2
theorem rfF_ok {F : Nat → Int} {k : Int} (hk : k ≠ 0) (h : rfF k F 1 = 0) : F 1 = 0 ∧ False := by
  by_cases g : F 1 = 0
  · rw [((rfF_f (k := k) (F := F)).2.2.2.2.2.1 g).1] at h
    exact absurd h hk
  · rw [(rfF_f (k := k) (F := F)).2.2.2.2.2.2 g] at h
    exact absurd h g
theorem utF_ok {b e F : Nat → Int} (h : utF b e F 1 = 0) : F 1 = 0 ∧ nhF 0 9 F 1 = 0 := by
  have h2 : r3F (e (utV F)) (nhF 0 9 F) 1 = 0 := h
  have h3 : nhF 0 9 F 1 = 0 := by
    unfold r3F at h2
    split at h2
    · exact h2
    · exact (rfF_ok (by decide) h2).1
  refine ⟨Decidable.byContradiction (fun z => ?_), h3⟩
  rw [nhF_f.2.2.2.2.1 z] at h3
  exact z h3
theorem tgF_ok {b F : Nat → Int} {hi : Int} (h : tgF b hi F 1 = 0) : F 1 = 0 := by
  have h2 : nhF 0 hi (if F 5 = 4 then adv b F else F) 1 = 0 := h
  refine Decidable.byContradiction (fun z => ?_)
  have e : (if F 5 = 4 then adv b F else F) 1 = F 1 := by split <;> rfl
  rw [nhF_f.2.2.2.2.1 (by rw [e]; exact z), e] at h2
  exact z h2
theorem zI_shl10 {t : Nat} (ht : t < 10) : zI 1 <<< (zI t &&& 31) = zI ((2 ^ t : Nat) : Int) := by
  have : ∀ t ∈ List.range 10, zI 1 <<< (zI (t : Nat) &&& 31) = zI ((2 ^ t : Nat) : Int) := by decide +kernel
  exact this t (List.mem_range.mpr ht)
theorem bt_or {n v j : Nat} : btN (n ||| 2 ^ v) j = if j = v then 1 else btN n j := by
  have key : ∀ x y : Nat, btN x y = if x.testBit y = true then 1 else 0 := by
    intro x y
    unfold btN
    rw [Nat.testBit_eq_decide_div_mod_eq, Nat.shiftRight_eq_div_pow, Nat.and_one_is_mod]
    by_cases g : x / 2 ^ y % 2 = 1
    · rw [g, decide_eq_true rfl, if_pos rfl]
      rfl
    · rw [decide_eq_false g, if_neg (by decide)]
      omega
  rw [key, key, Nat.testBit_or, Nat.testBit_two_pow]
  by_cases e : j = v
  · subst e
    rw [decide_eq_true rfl, Bool.or_true, if_pos rfl, if_pos rfl]
  · rw [decide_eq_false (fun z => e z.symm), Bool.or_false, if_neg e]
theorem or_lt10 {u t : Nat} (hu : u < 1024) (ht : t < 10) : u ||| 2 ^ t < 1024 := Nat.or_lt_two_pow (n := 10) hu (Nat.pow_lt_pow_right (by decide) ht)
section MODEL
variable {T : Nat → Nat × Nat} {S : Nat → Nat → Int} {c : pm_M × pm_C} {m : Nat}
/-- a part of a line -/
def lnR (d tm : Nat) (ls : List Value) (T : Nat → Nat × Nat) (S : Nat → Nat → Int) (c : pm_M × pm_C) (m : Nat) (b : Nat → Int) (P : pS) : Prop := ∃ S', px_R d tm ls (zh T S c) (.inl none) (zh T S' c) ∧ lnF m S S' ∧ tkM b P.1 (S' m) ∧ (P.1 1 = 0 → stgM S' m P.2.1 ∧ tbM S' m P.2.2)
theorem rule1 {b : Nat → Int} {P : pS} (hm : ly11 T m) (hb : ∀ j, j < 500 → S (m + 10) j = b j) (hbb : tpB b) (hG : tkM b P.1 (S m)) (hF : tpF P.1) (h1 : P.1 1 = 0) (hS : stgM S m P.2.1) (hT : tbM S m P.2.2) (hE : P.2.2 0 0 = 0) : lnR 3 153 [.ref m, .int (zI 1)] T S c m b (rdSheet b P) := by
  obtain ⟨t0, t1, t2, t3, t4, t5, t6, t7, t8, t9, t10, t11, t12, t13, t14, t15, t16, t17, t18, t19, t20, t21, t22, t23, t24, t25, t26, t27, t28, t29, t30, t31, t32, t33, t34, t35⟩ := id hm
  have eP : rdSheet b P = (tnF b 1 8 (tnF b 1 8 (adv b P.1)), upR P.2.1 0 (upz (upz (P.2.1 0) 0 (nhV 1 8 (adv b P.1))) 1 (nhV 1 8 (tnF b 1 8 (adv b P.1)))), upR P.2.2 0 (upz (P.2.2 0) 0 1)) := by
    unfold rdSheet r3F
    rw [if_pos hE]
  rw [eP]
  obtain ⟨G1, r1, g1, f1, -⟩ := m_next (T := T) (S := S) (c := c) hm hb hbb hG hF h1
  have p1 : tpF (adv b P.1) := tpF_adv hF.A
  obtain ⟨v, G2, r2, g2, f2, rfl⟩ := m_readNumber (T := T) (S := upS S m G1) (c := c) (lo := 1) (hi := 8) hm (fun j hj => by rw [upS_ne (by omega)]; exact hb j hj) hbb (by rw [upS_eq]; exact g1) p1 (by decide) (by decide)
  rw [upS_up] at r2
  rw [upS_eq] at f2
  obtain ⟨v, G3, r3, g3, f3, rfl⟩ := m_readNumber (T := T) (S := upS (upS S m G2) (m + 2) (upz (S (m + 2)) 7 (nmV 1 8 (adv b P.1)))) (c := c) (lo := 1) (hi := 8) hm (fun j hj => by rw [upS_ne (by omega), upS_ne (by omega)]; exact hb j hj) hbb (by rw [upS_ne (by omega), upS_eq]; exact g2) (tpF_tn p1) (by decide) (by decide)
  rw [upS_srt (a := m) (b := m + 2) (by omega), upT_upS, upS_up] at r3
  rw [upS_ne (by omega), upS_eq] at f3
  have ff : lnF m S (upS (upS S m G3) (m + 2) (upz (upz (S (m + 2)) 7 (nmV 1 8 (adv b P.1))) 8 (nmV 1 8 (tnF b 1 8 (adv b P.1))))) := by
    have e0 := lnF.fields (S := S) (f1.trans (f2.trans f3))
    have e1 := e0.trans (lnF.told (m := m) (k := 7) (v := nmV 1 8 (adv b P.1)) (S := upS S m G3) (by decide))
    have e2 := e1.trans (lnF.told (m := m) (k := 8) (v := nmV 1 8 (tnF b 1 8 (adv b P.1))) (by decide))
    rw [upS_eq, upS_up, upS_ne (by omega)] at e2
    exact e2
  refine ⟨upS (upS S m G3) (m + 2) (upz (upz (S (m + 2)) 7 (nmV 1 8 (adv b P.1))) 8 (nmV 1 8 (tnF b 1 8 (adv b P.1)))), px_ofQ fun Q hQ => ?_, ff, by rw [upS_ne (by omega), upS_eq]; exact g3, fun z => ?_⟩
  · (simp (disch := first | with_reducible assumption | omega | decide | (simp only [ps_low, List.map_cons, List.map_nil, Value.category, List.sum_cons, List.sum_nil]; decide)) only [el_X11_readRule_0, el_X11_readRule_4, el_X11_readRule_5, el_X11_readRule_6, el_X11_readRule_9, el_X11_readRule_10, el_X11_readRule_13, el_X11_readRule_15, el_X11_readRule_16, el_X11_readRule_17, el_X11_readRule_22, el_X11_readRule_23, el_X11_readRule_24, el_X11_readRule_27, el_X11_readRule_29, el_X11_readRule_30, el_X11_readRule_31, el_X11_readRule_36, el_X11_readRule_37, el_X11_readRule_40, el_X11_readRule_41, el_X11_readRule_42, el_X11_readRule_45, el_X11_readRule_46, el_X11_readRule_49, el_X11_readRule_51, el_X11_readRule_52, el_X11_readRule_53, el_X11_readRule_59, el_X11_readRule_60, el_X11_readRule_63, el_X11_readRule_64, el_X11_readRule_67, el_X11_readRule_69, el_X11_readRule_70, el_X11_readRule_71, el_X11_readRule_77, el_X11_readRule_78, el_X11_readRule_79, el_X11_readRule_82, el_X11_readRule_84, el_X11_readRule_85, el_X11_readRule_86, el_X11_readRule_92, el_X11_readRule_93, el_X11_readRule_94, el_X11_readRule_97, el_X11_readRule_99, el_X11_readRule_100, el_X11_readRule_101, el_X11_readRule_104, el_X11_readRule_106, el_X11_readRule_107, el_X11_readRule_113, el_X11_readRule_114, gf_11_2, px_ifp, px_ifn, zh_1, zc_1, zc_2, zc_3, zc_4, zc_5, zc_6, zc_7, zc_8, zc_9, zc_10, zc_11, zc_12, zc_20, zc_21, zc_22, zp_1, zp_2, zp_3, zp_4, zp_5, zp_6, zp_7, zp_8, zp_9, zp_10, zp_11, zp_12, zp_20, zp_21, zp_22, upS_eq, upS_ne, upS_up, upz_eq, upz_ne, upz_up, px_al_aI, px_as_aI, px_as_aZ, px_as_aC, px_ln_aI, Option.toList, List.cons_append, List.nil_append, Int.reduceAdd, Int.reduceSub, Int.reduceMul, ↓reduceIte, Nat.reduceEqDiff, eq_self, Int.reduceEq, Int.reduceLT, Int.reduceLE, Int.reduceNe, Int.reduceNeg, Int.reduceToNat, ne_eq, not_true_eq_false, not_false_eq_true, t0, t1, t2, t3, t4, t5, t6, t7, t8, t9, t10, t11, t12, t13, t14, t15, t16, t17, t18, t19, t20, t21, t22, t23, t24, t25, t26, t27, t28, t29, t30, t31, t32, t33, t34, t35, el_X11_readRule_1 (r1 ..) _ (zo_12 _) _, el_X11_readRule_19 (r2 ..) _ (zo_12 _) _, el_X11_readRule_33 (r3 ..) _ (zo_12 _) _]; repeat (first | simp (disch := first | omega | decide) only [upz_srt, upy_upz, upz_up, upS_srt, upT_upS, upS_up] | simp (disch := first | with_reducible assumption | omega | decide | (simp only [ps_low, List.map_cons, List.map_nil, Value.category, List.sum_cons, List.sum_nil]; decide)) only [el_X11_readRule_0, el_X11_readRule_4, el_X11_readRule_5, el_X11_readRule_6, el_X11_readRule_9, el_X11_readRule_10, el_X11_readRule_13, el_X11_readRule_15, el_X11_readRule_16, el_X11_readRule_17, el_X11_readRule_22, el_X11_readRule_23, el_X11_readRule_24, el_X11_readRule_27, el_X11_readRule_29, el_X11_readRule_30, el_X11_readRule_31, el_X11_readRule_36, el_X11_readRule_37, el_X11_readRule_40, el_X11_readRule_41, el_X11_readRule_42, el_X11_readRule_45, el_X11_readRule_46, el_X11_readRule_49, el_X11_readRule_51, el_X11_readRule_52, el_X11_readRule_53, el_X11_readRule_59, el_X11_readRule_60, el_X11_readRule_63, el_X11_readRule_64, el_X11_readRule_67, el_X11_readRule_69, el_X11_readRule_70, el_X11_readRule_71, el_X11_readRule_77, el_X11_readRule_78, el_X11_readRule_79, el_X11_readRule_82, el_X11_readRule_84, el_X11_readRule_85, el_X11_readRule_86, el_X11_readRule_92, el_X11_readRule_93, el_X11_readRule_94, el_X11_readRule_97, el_X11_readRule_99, el_X11_readRule_100, el_X11_readRule_101, el_X11_readRule_104, el_X11_readRule_106, el_X11_readRule_107, el_X11_readRule_113, el_X11_readRule_114, gf_11_2, px_ifp, px_ifn, zh_1, zc_1, zc_2, zc_3, zc_4, zc_5, zc_6, zc_7, zc_8, zc_9, zc_10, zc_11, zc_12, zc_20, zc_21, zc_22, zp_1, zp_2, zp_3, zp_4, zp_5, zp_6, zp_7, zp_8, zp_9, zp_10, zp_11, zp_12, zp_20, zp_21, zp_22, upS_eq, upS_ne, upS_up, upz_eq, upz_ne, upz_up, px_al_aI, px_as_aI, px_as_aZ, px_as_aC, px_ln_aI, Option.toList, List.cons_append, List.nil_append, Int.reduceAdd, Int.reduceSub, Int.reduceMul, ↓reduceIte, Nat.reduceEqDiff, eq_self, Int.reduceEq, Int.reduceLT, Int.reduceLE, Int.reduceNe, Int.reduceNeg, Int.reduceToNat, ne_eq, not_true_eq_false, not_false_eq_true, t0, t1, t2, t3, t4, t5, t6, t7, t8, t9, t10, t11, t12, t13, t14, t15, t16, t17, t18, t19, t20, t21, t22, t23, t24, t25, t26, t27, t28, t29, t30, t31, t32, t33, t34, t35, el_X11_readRule_1 (r1 ..) _ (zo_12 _) _, el_X11_readRule_19 (r2 ..) _ (zo_12 _) _, el_X11_readRule_33 (r3 ..) _ (zo_12 _) _]))
    exact hQ
  · have z2 := tnF_ok (b := b) (F := tnF b 1 8 (adv b P.1)) z
    have z1 := tnF_ok (b := b) (F := adv b P.1) z2.1
    obtain ⟨⟨s0, s1, s2, s3, s4, s5, s6⟩, sa, sk⟩ := hS
    have n21 : G3 21 = S m 21 := by rw [f3 21 (by decide) (by decide), f2 21 (by decide) (by decide), f1 21 (by decide) (by decide)]
    have n22 : G3 22 = S m 22 := by rw [f3 22 (by decide) (by decide), f2 22 (by decide) (by decide), f1 22 (by decide) (by decide)]
    refine ⟨⟨⟨?_, ?_, ?_, ?_, ?_, ?_, ?_⟩, fun j hj => ?_, fun j hj => ?_⟩, ?_⟩
    · rw [upS_eq, upz_ne (by omega), upz_eq, z1.2]; rfl
    · rw [upS_eq, upz_eq, z2.2]; rfl
    · rw [upS_eq, upz_ne (by omega), upz_ne (by omega)]; exact s2
    · rw [upS_eq, upz_ne (by omega), upz_ne (by omega)]; exact s3
    · rw [upS_eq, upz_ne (by omega), upz_ne (by omega)]; exact s4
    · rw [upS_eq, upz_ne (by omega), upz_ne (by omega)]; exact s5
    · rw [upS_eq, upz_ne (by omega), upz_ne (by omega)]; exact s6
    · simp (disch := omega) only [upS_ne]
      exact sa j hj
    · simp (disch := omega) only [upS_ne]
      exact sk j hj
    · unfold tbM
      rw [upS_ne (by omega), upS_eq, n21, n22]
      exact hT
theorem rule2 {b : Nat → Int} {P : pS} (hm : ly11 T m) (hb : ∀ j, j < 500 → S (m + 10) j = b j) (hbb : tpB b) (hG : tkM b P.1 (S m)) (hF : tpF P.1) (h1 : P.1 1 = 0) (hS : stgM S m P.2.1) (hT : tbM S m P.2.2) (hE : P.2.2 0 1 = 0) : lnR 3 153 [.ref m, .int (zI 2)] T S c m b (rdTower b P) := by
  obtain ⟨t0, t1, t2, t3, t4, t5, t6, t7, t8, t9, t10, t11, t12, t13, t14, t15, t16, t17, t18, t19, t20, t21, t22, t23, t24, t25, t26, t27, t28, t29, t30, t31, t32, t33, t34, t35⟩ := id hm
  have eP : rdTower b P = (tnF b 1 200 (adv b P.1), upR P.2.1 0 (upz (P.2.1 0) 2 (nhV 1 200 (adv b P.1))), upR P.2.2 0 (upz (P.2.2 0) 1 1)) := by
    unfold rdTower r3F
    rw [if_pos hE]
  rw [eP]
  obtain ⟨G1, r1, g1, f1, -⟩ := m_next (T := T) (S := S) (c := c) hm hb hbb hG hF h1
  have p1 : tpF (adv b P.1) := tpF_adv hF.A
  obtain ⟨v, G2, r2, g2, f2, rfl⟩ := m_readNumber (T := T) (S := upS S m G1) (c := c) (lo := 1) (hi := 200) hm (fun j hj => by rw [upS_ne (by omega)]; exact hb j hj) hbb (by rw [upS_eq]; exact g1) p1 (by decide) (by decide)
  rw [upS_up] at r2
  rw [upS_eq] at f2
  have ff : lnF m S (upS (upS S m G2) (m + 2) (upz (S (m + 2)) 9 (nmV 1 200 (adv b P.1)))) := by
    have e0 := lnF.fields (S := S) (f1.trans f2)
    have e1 := e0.trans (lnF.told (m := m) (k := 9) (v := nmV 1 200 (adv b P.1)) (S := upS S m G2) (by decide))
    rw [upS_ne (by omega)] at e1
    exact e1
  refine ⟨upS (upS S m G2) (m + 2) (upz (S (m + 2)) 9 (nmV 1 200 (adv b P.1))), px_ofQ fun Q hQ => ?_, ff, by rw [upS_ne (by omega), upS_eq]; exact g2, fun z => ?_⟩
  · (simp (disch := first | with_reducible assumption | omega | decide | (simp only [ps_low, List.map_cons, List.map_nil, Value.category, List.sum_cons, List.sum_nil]; decide)) only [el_X11_readRule_0, el_X11_readRule_4, el_X11_readRule_5, el_X11_readRule_6, el_X11_readRule_9, el_X11_readRule_10, el_X11_readRule_13, el_X11_readRule_15, el_X11_readRule_16, el_X11_readRule_17, el_X11_readRule_22, el_X11_readRule_23, el_X11_readRule_24, el_X11_readRule_27, el_X11_readRule_29, el_X11_readRule_30, el_X11_readRule_31, el_X11_readRule_36, el_X11_readRule_37, el_X11_readRule_40, el_X11_readRule_41, el_X11_readRule_42, el_X11_readRule_45, el_X11_readRule_46, el_X11_readRule_49, el_X11_readRule_51, el_X11_readRule_52, el_X11_readRule_53, el_X11_readRule_59, el_X11_readRule_60, el_X11_readRule_63, el_X11_readRule_64, el_X11_readRule_67, el_X11_readRule_69, el_X11_readRule_70, el_X11_readRule_71, el_X11_readRule_77, el_X11_readRule_78, el_X11_readRule_79, el_X11_readRule_82, el_X11_readRule_84, el_X11_readRule_85, el_X11_readRule_86, el_X11_readRule_92, el_X11_readRule_93, el_X11_readRule_94, el_X11_readRule_97, el_X11_readRule_99, el_X11_readRule_100, el_X11_readRule_101, el_X11_readRule_104, el_X11_readRule_106, el_X11_readRule_107, el_X11_readRule_113, el_X11_readRule_114, gf_11_2, px_ifp, px_ifn, zh_1, zc_1, zc_2, zc_3, zc_4, zc_5, zc_6, zc_7, zc_8, zc_9, zc_10, zc_11, zc_12, zc_20, zc_21, zc_22, zp_1, zp_2, zp_3, zp_4, zp_5, zp_6, zp_7, zp_8, zp_9, zp_10, zp_11, zp_12, zp_20, zp_21, zp_22, upS_eq, upS_ne, upS_up, upz_eq, upz_ne, upz_up, px_al_aI, px_as_aI, px_as_aZ, px_as_aC, px_ln_aI, Option.toList, List.cons_append, List.nil_append, Int.reduceAdd, Int.reduceSub, Int.reduceMul, ↓reduceIte, Nat.reduceEqDiff, eq_self, Int.reduceEq, Int.reduceLT, Int.reduceLE, Int.reduceNe, Int.reduceNeg, Int.reduceToNat, ne_eq, not_true_eq_false, not_false_eq_true, t0, t1, t2, t3, t4, t5, t6, t7, t8, t9, t10, t11, t12, t13, t14, t15, t16, t17, t18, t19, t20, t21, t22, t23, t24, t25, t26, t27, t28, t29, t30, t31, t32, t33, t34, t35, el_X11_readRule_1 (r1 ..) _ (zo_12 _) _, el_X11_readRule_56 (r2 ..) _ (zo_12 _) _]; repeat (first | simp (disch := first | omega | decide) only [upz_srt, upy_upz, upz_up, upS_srt, upT_upS, upS_up] | simp (disch := first | with_reducible assumption | omega | decide | (simp only [ps_low, List.map_cons, List.map_nil, Value.category, List.sum_cons, List.sum_nil]; decide)) only [el_X11_readRule_0, el_X11_readRule_4, el_X11_readRule_5, el_X11_readRule_6, el_X11_readRule_9, el_X11_readRule_10, el_X11_readRule_13, el_X11_readRule_15, el_X11_readRule_16, el_X11_readRule_17, el_X11_readRule_22, el_X11_readRule_23, el_X11_readRule_24, el_X11_readRule_27, el_X11_readRule_29, el_X11_readRule_30, el_X11_readRule_31, el_X11_readRule_36, el_X11_readRule_37, el_X11_readRule_40, el_X11_readRule_41, el_X11_readRule_42, el_X11_readRule_45, el_X11_readRule_46, el_X11_readRule_49, el_X11_readRule_51, el_X11_readRule_52, el_X11_readRule_53, el_X11_readRule_59, el_X11_readRule_60, el_X11_readRule_63, el_X11_readRule_64, el_X11_readRule_67, el_X11_readRule_69, el_X11_readRule_70, el_X11_readRule_71, el_X11_readRule_77, el_X11_readRule_78, el_X11_readRule_79, el_X11_readRule_82, el_X11_readRule_84, el_X11_readRule_85, el_X11_readRule_86, el_X11_readRule_92, el_X11_readRule_93, el_X11_readRule_94, el_X11_readRule_97, el_X11_readRule_99, el_X11_readRule_100, el_X11_readRule_101, el_X11_readRule_104, el_X11_readRule_106, el_X11_readRule_107, el_X11_readRule_113, el_X11_readRule_114, gf_11_2, px_ifp, px_ifn, zh_1, zc_1, zc_2, zc_3, zc_4, zc_5, zc_6, zc_7, zc_8, zc_9, zc_10, zc_11, zc_12, zc_20, zc_21, zc_22, zp_1, zp_2, zp_3, zp_4, zp_5, zp_6, zp_7, zp_8, zp_9, zp_10, zp_11, zp_12, zp_20, zp_21, zp_22, upS_eq, upS_ne, upS_up, upz_eq, upz_ne, upz_up, px_al_aI, px_as_aI, px_as_aZ, px_as_aC, px_ln_aI, Option.toList, List.cons_append, List.nil_append, Int.reduceAdd, Int.reduceSub, Int.reduceMul, ↓reduceIte, Nat.reduceEqDiff, eq_self, Int.reduceEq, Int.reduceLT, Int.reduceLE, Int.reduceNe, Int.reduceNeg, Int.reduceToNat, ne_eq, not_true_eq_false, not_false_eq_true, t0, t1, t2, t3, t4, t5, t6, t7, t8, t9, t10, t11, t12, t13, t14, t15, t16, t17, t18, t19, t20, t21, t22, t23, t24, t25, t26, t27, t28, t29, t30, t31, t32, t33, t34, t35, el_X11_readRule_1 (r1 ..) _ (zo_12 _) _, el_X11_readRule_56 (r2 ..) _ (zo_12 _) _]))
    exact hQ
  · have z1 := tnF_ok (b := b) (F := adv b P.1) z
    obtain ⟨⟨s0, s1, s2, s3, s4, s5, s6⟩, sa, sk⟩ := hS
    have n21 : G2 21 = S m 21 := by rw [f2 21 (by decide) (by decide), f1 21 (by decide) (by decide)]
    have n22 : G2 22 = S m 22 := by rw [f2 22 (by decide) (by decide), f1 22 (by decide) (by decide)]
    refine ⟨⟨⟨?_, ?_, ?_, ?_, ?_, ?_, ?_⟩, fun j hj => ?_, fun j hj => ?_⟩, ?_⟩
    · rw [upS_eq, upz_ne (by omega)]; exact s0
    · rw [upS_eq, upz_ne (by omega)]; exact s1
    · rw [upS_eq, upz_eq, z1.2]; rfl
    · rw [upS_eq, upz_ne (by omega)]; exact s3
    · rw [upS_eq, upz_ne (by omega)]; exact s4
    · rw [upS_eq, upz_ne (by omega)]; exact s5
    · rw [upS_eq, upz_ne (by omega)]; exact s6
    · simp (disch := omega) only [upS_ne]
      exact sa j hj
    · simp (disch := omega) only [upS_ne]
      exact sk j hj
    · unfold tbM
      rw [upS_ne (by omega), upS_eq, n21, n22]
      exact hT
theorem rule4 {b : Nat → Int} {P : pS} (hm : ly11 T m) (hb : ∀ j, j < 500 → S (m + 10) j = b j) (hbb : tpB b) (hG : tkM b P.1 (S m)) (hF : tpF P.1) (h1 : P.1 1 = 0) (hS : stgM S m P.2.1) (hT : tbM S m P.2.2) (hE : P.2.2 0 2 = 0) : lnR 3 153 [.ref m, .int (zI 4)] T S c m b (rdWindow b P) := by
  obtain ⟨t0, t1, t2, t3, t4, t5, t6, t7, t8, t9, t10, t11, t12, t13, t14, t15, t16, t17, t18, t19, t20, t21, t22, t23, t24, t25, t26, t27, t28, t29, t30, t31, t32, t33, t34, t35⟩ := id hm
  obtain ⟨F1, hF1⟩ : ∃ F1, adv b P.1 = F1 := ⟨_, rfl⟩
  obtain ⟨F2, hF2⟩ : ∃ F2, tnF b 1 200 F1 = F2 := ⟨_, rfl⟩
  obtain ⟨F3, hF3⟩ : ∃ F3, tnF b 0 200 F2 = F3 := ⟨_, rfl⟩
  have eP : rdWindow b P = (tnF b (nhV 0 200 F2) 200 F3, upR P.2.1 0 (upz (upz (upz (P.2.1 0) 3 (nhV 1 200 F1)) 4 (nhV 0 200 F2)) 5 (nhV (nhV 0 200 F2) 200 F3)), upR P.2.2 0 (upz (P.2.2 0) 2 1)) := by
    unfold rdWindow r3F
    rw [if_pos hE, hF1]
    dsimp only
    rw [hF2, hF3]
  rw [eP]
  obtain ⟨G1, r1, g1, f1, -⟩ := m_next (T := T) (S := S) (c := c) hm hb hbb hG hF h1
  have p1 : tpF (adv b P.1) := tpF_adv hF.A
  rw [hF1] at g1 p1
  obtain ⟨v, G2, r2, g2, f2, rfl⟩ := m_readNumber (T := T) (S := upS S m G1) (c := c) (lo := 1) (hi := 200) hm (fun j hj => by rw [upS_ne (by omega)]; exact hb j hj) hbb (by rw [upS_eq]; exact g1) p1 (by decide) (by decide)
  have p2 : tpF F2 := by rw [← hF2]; exact tpF_tn p1
  rw [upS_up] at r2
  rw [upS_eq] at f2
  rw [hF2] at g2
  obtain ⟨v, G3, r3, g3, f3, rfl⟩ := m_readNumber (T := T) (S := upS (upS S m G2) (m + 2) (upz (S (m + 2)) 10 (nmV 1 200 F1))) (c := c) (lo := 0) (hi := 200) hm (fun j hj => by rw [upS_ne (by omega), upS_ne (by omega)]; exact hb j hj) hbb (by rw [upS_ne (by omega), upS_eq]; exact g2) p2 (by decide) (by decide)
  have p3 : tpF F3 := by rw [← hF3]; exact tpF_tn p2
  rw [upS_srt (a := m) (b := m + 2) (by omega), upT_upS, upS_up] at r3
  rw [upS_ne (by omega), upS_eq] at f3
  rw [hF3] at g3
  have w2 := nmV_r (F := F2) (show 0 ≤ (0 : Int) ∧ (0 : Int) ≤ 200 by decide)
  obtain ⟨v, G4, r4, g4, f4, rfl⟩ := m_readNumber (T := T) (S := upS (upS S m G3) (m + 2) (upz (upz (S (m + 2)) 10 (nmV 1 200 F1)) 11 (nmV 0 200 F2))) (c := c) (lo := nmV 0 200 F2) (hi := 200) hm (fun j hj => by rw [upS_ne (by omega), upS_ne (by omega)]; exact hb j hj) hbb (by rw [upS_ne (by omega), upS_eq]; exact g3) p3 (by omega) (by decide)
  rw [upS_srt (a := m) (b := m + 2) (by omega), upT_upS, upS_up] at r4
  rw [upS_ne (by omega), upS_eq] at f4
  have ff : lnF m S (upS (upS S m G4) (m + 2) (upz (upz (upz (S (m + 2)) 10 (nmV 1 200 F1)) 11 (nmV 0 200 F2)) 12 (nmV (nmV 0 200 F2) 200 F3))) := by
    have e0 := lnF.fields (S := S) (f1.trans (f2.trans (f3.trans f4)))
    have e1 := e0.trans (lnF.told (m := m) (k := 10) (v := nmV 1 200 F1) (S := upS S m G4) (by decide))
    have e2 := e1.trans (lnF.told (m := m) (k := 11) (v := nmV 0 200 F2) (by decide))
    rw [upS_eq, upS_up, upS_ne (by omega)] at e2
    have e3 := e2.trans (lnF.told (m := m) (k := 12) (v := nmV (nmV 0 200 F2) 200 F3) (by decide))
    rw [upS_eq, upS_up] at e3
    exact e3
  -- behind a fault the class's lower end is another: then it counts no more
  have gl : tkM b (tnF b (nhV 0 200 F2) 200 F3) G4 := by
    by_cases h : F3 1 = 0
    · have := (tnF_ok (b := b) (F := F2) (lo := 0) (hi := 200) (by rw [hF3]; exact h)).2
      rw [← this]
      exact g4
    · have ea : ∀ lo : Int, tnF b lo 200 F3 = adv b F3 := fun lo => by unfold tnF; rw [nhF_f.2.2.2.2.1 h]
      rw [ea] at g4 ⊢
      exact g4
  refine ⟨upS (upS S m G4) (m + 2) (upz (upz (upz (S (m + 2)) 10 (nmV 1 200 F1)) 11 (nmV 0 200 F2)) 12 (nmV (nmV 0 200 F2) 200 F3)), px_ofQ fun Q hQ => ?_, ff, by rw [upS_ne (by omega), upS_eq]; exact gl, fun z => ?_⟩
  · (simp (disch := first | with_reducible assumption | omega | decide | (simp only [ps_low, List.map_cons, List.map_nil, Value.category, List.sum_cons, List.sum_nil]; decide)) only [el_X11_readRule_0, el_X11_readRule_4, el_X11_readRule_5, el_X11_readRule_6, el_X11_readRule_9, el_X11_readRule_10, el_X11_readRule_13, el_X11_readRule_15, el_X11_readRule_16, el_X11_readRule_17, el_X11_readRule_22, el_X11_readRule_23, el_X11_readRule_24, el_X11_readRule_27, el_X11_readRule_29, el_X11_readRule_30, el_X11_readRule_31, el_X11_readRule_36, el_X11_readRule_37, el_X11_readRule_40, el_X11_readRule_41, el_X11_readRule_42, el_X11_readRule_45, el_X11_readRule_46, el_X11_readRule_49, el_X11_readRule_51, el_X11_readRule_52, el_X11_readRule_53, el_X11_readRule_59, el_X11_readRule_60, el_X11_readRule_63, el_X11_readRule_64, el_X11_readRule_67, el_X11_readRule_69, el_X11_readRule_70, el_X11_readRule_71, el_X11_readRule_77, el_X11_readRule_78, el_X11_readRule_79, el_X11_readRule_82, el_X11_readRule_84, el_X11_readRule_85, el_X11_readRule_86, el_X11_readRule_92, el_X11_readRule_93, el_X11_readRule_94, el_X11_readRule_97, el_X11_readRule_99, el_X11_readRule_100, el_X11_readRule_101, el_X11_readRule_104, el_X11_readRule_106, el_X11_readRule_107, el_X11_readRule_113, el_X11_readRule_114, gf_11_2, px_ifp, px_ifn, zh_1, zc_1, zc_2, zc_3, zc_4, zc_5, zc_6, zc_7, zc_8, zc_9, zc_10, zc_11, zc_12, zc_20, zc_21, zc_22, zp_1, zp_2, zp_3, zp_4, zp_5, zp_6, zp_7, zp_8, zp_9, zp_10, zp_11, zp_12, zp_20, zp_21, zp_22, upS_eq, upS_ne, upS_up, upz_eq, upz_ne, upz_up, px_al_aI, px_as_aI, px_as_aZ, px_as_aC, px_ln_aI, Option.toList, List.cons_append, List.nil_append, Int.reduceAdd, Int.reduceSub, Int.reduceMul, ↓reduceIte, Nat.reduceEqDiff, eq_self, Int.reduceEq, Int.reduceLT, Int.reduceLE, Int.reduceNe, Int.reduceNeg, Int.reduceToNat, ne_eq, not_true_eq_false, not_false_eq_true, t0, t1, t2, t3, t4, t5, t6, t7, t8, t9, t10, t11, t12, t13, t14, t15, t16, t17, t18, t19, t20, t21, t22, t23, t24, t25, t26, t27, t28, t29, t30, t31, t32, t33, t34, t35, el_X11_readRule_1 (r1 ..) _ (zo_12 _) _, el_X11_readRule_74 (r2 ..) _ (zo_12 _) _, el_X11_readRule_89 (r3 ..) _ (zo_12 _) _, el_X11_readRule_110 (r4 ..) _ (zo_12 _) _]; repeat (first | simp (disch := first | omega | decide) only [upz_srt, upy_upz, upz_up, upS_srt, upT_upS, upS_up] | simp (disch := first | with_reducible assumption | omega | decide | (simp only [ps_low, List.map_cons, List.map_nil, Value.category, List.sum_cons, List.sum_nil]; decide)) only [el_X11_readRule_0, el_X11_readRule_4, el_X11_readRule_5, el_X11_readRule_6, el_X11_readRule_9, el_X11_readRule_10, el_X11_readRule_13, el_X11_readRule_15, el_X11_readRule_16, el_X11_readRule_17, el_X11_readRule_22, el_X11_readRule_23, el_X11_readRule_24, el_X11_readRule_27, el_X11_readRule_29, el_X11_readRule_30, el_X11_readRule_31, el_X11_readRule_36, el_X11_readRule_37, el_X11_readRule_40, el_X11_readRule_41, el_X11_readRule_42, el_X11_readRule_45, el_X11_readRule_46, el_X11_readRule_49, el_X11_readRule_51, el_X11_readRule_52, el_X11_readRule_53, el_X11_readRule_59, el_X11_readRule_60, el_X11_readRule_63, el_X11_readRule_64, el_X11_readRule_67, el_X11_readRule_69, el_X11_readRule_70, el_X11_readRule_71, el_X11_readRule_77, el_X11_readRule_78, el_X11_readRule_79, el_X11_readRule_82, el_X11_readRule_84, el_X11_readRule_85, el_X11_readRule_86, el_X11_readRule_92, el_X11_readRule_93, el_X11_readRule_94, el_X11_readRule_97, el_X11_readRule_99, el_X11_readRule_100, el_X11_readRule_101, el_X11_readRule_104, el_X11_readRule_106, el_X11_readRule_107, el_X11_readRule_113, el_X11_readRule_114, gf_11_2, px_ifp, px_ifn, zh_1, zc_1, zc_2, zc_3, zc_4, zc_5, zc_6, zc_7, zc_8, zc_9, zc_10, zc_11, zc_12, zc_20, zc_21, zc_22, zp_1, zp_2, zp_3, zp_4, zp_5, zp_6, zp_7, zp_8, zp_9, zp_10, zp_11, zp_12, zp_20, zp_21, zp_22, upS_eq, upS_ne, upS_up, upz_eq, upz_ne, upz_up, px_al_aI, px_as_aI, px_as_aZ, px_as_aC, px_ln_aI, Option.toList, List.cons_append, List.nil_append, Int.reduceAdd, Int.reduceSub, Int.reduceMul, ↓reduceIte, Nat.reduceEqDiff, eq_self, Int.reduceEq, Int.reduceLT, Int.reduceLE, Int.reduceNe, Int.reduceNeg, Int.reduceToNat, ne_eq, not_true_eq_false, not_false_eq_true, t0, t1, t2, t3, t4, t5, t6, t7, t8, t9, t10, t11, t12, t13, t14, t15, t16, t17, t18, t19, t20, t21, t22, t23, t24, t25, t26, t27, t28, t29, t30, t31, t32, t33, t34, t35, el_X11_readRule_1 (r1 ..) _ (zo_12 _) _, el_X11_readRule_74 (r2 ..) _ (zo_12 _) _, el_X11_readRule_89 (r3 ..) _ (zo_12 _) _, el_X11_readRule_110 (r4 ..) _ (zo_12 _) _]))
    exact hQ
  · have z3 := tnF_ok (b := b) (F := F3) z
    have z2 := tnF_ok (b := b) (F := F2) (lo := 0) (hi := 200) (by rw [hF3]; exact z3.1)
    have z1 := tnF_ok (b := b) (F := F1) (lo := 1) (hi := 200) (by rw [hF2]; exact z2.1)
    obtain ⟨⟨s0, s1, s2, s3, s4, s5, s6⟩, sa, sk⟩ := hS
    have n21 : G4 21 = S m 21 := by rw [f4 21 (by decide) (by decide), f3 21 (by decide) (by decide), f2 21 (by decide) (by decide), f1 21 (by decide) (by decide)]
    have n22 : G4 22 = S m 22 := by rw [f4 22 (by decide) (by decide), f3 22 (by decide) (by decide), f2 22 (by decide) (by decide), f1 22 (by decide) (by decide)]
    refine ⟨⟨⟨?_, ?_, ?_, ?_, ?_, ?_, ?_⟩, fun j hj => ?_, fun j hj => ?_⟩, ?_⟩
    · rw [upS_eq, upz_ne (by omega), upz_ne (by omega), upz_ne (by omega)]; exact s0
    · rw [upS_eq, upz_ne (by omega), upz_ne (by omega), upz_ne (by omega)]; exact s1
    · rw [upS_eq, upz_ne (by omega), upz_ne (by omega), upz_ne (by omega)]; exact s2
    · rw [upS_eq, upz_ne (by omega), upz_ne (by omega), upz_eq, z1.2]; rfl
    · rw [upS_eq, upz_ne (by omega), upz_eq, z2.2]; rfl
    · rw [upS_eq, upz_eq, z2.2, z3.2]; rfl
    · rw [upS_eq, upz_ne (by omega), upz_ne (by omega), upz_ne (by omega)]; exact s6
    · simp (disch := omega) only [upS_ne]
      exact sa j hj
    · simp (disch := omega) only [upS_ne]
      exact sk j hj
    · unfold tbM
      rw [upS_ne (by omega), upS_eq, n21, n22]
      exact hT
end MODEL
