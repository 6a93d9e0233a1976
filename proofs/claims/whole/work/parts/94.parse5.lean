/-! THE MODEL'S TEXTS, 5: tables, winds, known folds -/
section MODEL
variable {T : Nat → Nat × Nat} {S : Nat → Nat → Int} {c : pm_M × pm_C} {m : Nat}
theorem line_table {b : Nat → Int} {P : pS} (hm : ly11 T m) (hb : ∀ j, j < 500 → S (m + 10) j = b j) (hbb : tpB b) (hG : tkM b P.1 (S m)) (hF : tpF P.1) (h1 : P.1 1 = 0) (hS : stgM S m P.2.1) (hT : tbM S m P.2.2) : lnR 3 154 [.ref m, .retAddr 0] T S c m b (rdTable b P) := by
  obtain ⟨t0, t1, t2, t3, t4, t5, t6, t7, t8, t9, t10, t11, t12, t13, t14, t15, t16, t17, t18, t19, t20, t21, t22, t23, t24, t25, t26, t27, t28, t29, t30, t31, t32, t33, t34, t35⟩ := id hm
  obtain ⟨F1, hF1⟩ : ∃ F1, adv b P.1 = F1 := ⟨_, rfl⟩
  obtain ⟨F2, hF2⟩ : ∃ F2, utF b (P.2.2 1) F1 = F2 := ⟨_, rfl⟩
  obtain ⟨F3, hF3⟩ : ∃ F3, tnF b 0 20 F2 = F3 := ⟨_, rfl⟩
  have eP : rdTable b P = (tnF b 0 20 F3, upR (upR P.2.1 1 (upz (P.2.1 1) (utV F1) (nhV 0 20 F2))) 2 (upz (P.2.1 2) (utV F1) (nhV 0 20 F3)), upR P.2.2 1 (upz (P.2.2 1) (utV F1) 1)) := by
    unfold rdTable
    rw [hF1]
    dsimp only
    rw [hF2, hF3]
  rw [eP]
  obtain ⟨⟨n, hn, hn21, hbits⟩, ⟨n2, hn2, hn22, hbits2⟩⟩ := hT
  obtain ⟨G1, r1, g1, f1, -⟩ := m_next (T := T) (S := S) (c := c) hm hb hbb hG hF h1
  have p1 : tpF (adv b P.1) := tpF_adv hF.A
  rw [hF1] at g1 p1
  have e21 : G1 21 = n := by rw [f1 21 (by decide) (by decide)]; exact hn21
  obtain ⟨⟨v, G2, r2, g2, f2, rfl⟩, hv⟩ := m_readOnceOf (T := T) (S := upS S m G1) (c := c) (n := n) (e := P.2.2 1) hm (fun j hj => by rw [upS_ne (by omega)]; exact hb j hj) hbb (by rw [upS_eq]; exact g1) p1 hn hbits
  have p2 : tpF F2 := by rw [← hF2]; exact tpF_ut p1
  rw [upS_up] at r2
  rw [upS_eq] at f2
  rw [hF2] at g2
  obtain ⟨w, hw⟩ : ∃ w : Nat, nmV 0 9 F1 = w := ⟨(nmV 0 9 F1).toNat, by have := nmV_r (F := F1) (show 0 ≤ (0 : Int) ∧ (0 : Int) ≤ 9 by decide); omega⟩
  have hw10 : w < 10 := by have := nmV_r (F := F1) (show 0 ≤ (0 : Int) ∧ (0 : Int) ≤ 9 by decide); omega
  rw [hw] at r2 hv
  have e21' : G2 21 = n := by rw [f2 21 (by decide) (by decide)]; exact e21
  obtain ⟨v, G3, r3, g3, f3, rfl⟩ := m_readNumber (T := T) (S := upS S m (upz G2 21 ((n ||| 2 ^ w : Nat) : Int))) (c := c) (lo := 0) (hi := 20) (F := F2) hm (fun j hj => by rw [upS_ne (by omega)]; exact hb j hj) hbb (by rw [upS_eq]; exact ⟨by rw [upz_ne (by omega)]; exact g2.1, by rw [upz_ne (by omega)]; exact g2.2.1, fun z => by rw [upz_ne (by omega)]; exact g2.2.2.1 z, fun z => by rw [upz_ne (by omega), upz_ne (by omega), upz_ne (by omega), upz_ne (by omega), upz_ne (by omega)]; exact g2.2.2.2 z⟩) p2 (by decide) (by decide)
  have p3 : tpF F3 := by rw [← hF3]; exact tpF_tn p2
  rw [upS_up] at r3
  rw [upS_eq] at f3
  rw [hF3] at g3
  obtain ⟨v, G4, r4, g4, f4, rfl⟩ := m_readNumber (T := T) (S := upS (upS S m G3) (m + 3) (upz (S (m + 3)) (10 + w) (nmV 0 20 F2))) (c := c) (lo := 0) (hi := 20) (F := F3) hm (fun j hj => by rw [upS_ne (by omega), upS_ne (by omega)]; exact hb j hj) hbb (by rw [upS_ne (by omega), upS_eq]; exact g3) p3 (by decide) (by decide)
  rw [upS_srt (a := m) (b := m + 3) (by omega), upT_upS, upS_up] at r4
  rw [upS_ne (by omega), upS_eq] at f4
  have ek : (10 + (w : Int)).toNat = 10 + w := by omega
  have n21 : G4 21 = ((n ||| 2 ^ w : Nat) : Int) := by rw [f4 21 (by decide) (by decide), f3 21 (by decide) (by decide), upz_eq]
  have ff : lnF m S (upS (upS (upS S m G4) (m + 3) (upz (S (m + 3)) (10 + w) (nmV 0 20 F2))) (m + 4) (upz (S (m + 4)) (10 + w) (nmV 0 20 F3))) := by
    have e0 : lnF m S (upS S m G4) := ⟨fun a a1 _ => upS_ne a1, fun j j1 j2 j3 j4 => by rw [upS_eq, f4 j j1 j2, f3 j j1 j2, upz_ne j3, f2 j j1 j2, f1 j j1 j2], fun j _ => by rw [upS_ne (by omega)], fun a j _ _ _ => by rw [upS_ne (by omega)]⟩
    have e1 := e0.trans (lnF.arr (m := m) (a0 := 3) (k := 10 + w) (v := nmV 0 20 F2) (by decide) (by omega))
    rw [upS_ne (by omega)] at e1
    have e2 := e1.trans (lnF.arr (m := m) (a0 := 4) (k := 10 + w) (v := nmV 0 20 F3) (by decide) (by omega))
    rw [upS_ne (by omega), upS_ne (by omega)] at e2
    exact e2
  refine ⟨upS (upS (upS S m G4) (m + 3) (upz (S (m + 3)) (10 + w) (nmV 0 20 F2))) (m + 4) (upz (S (m + 4)) (10 + w) (nmV 0 20 F3)), px_ofQ fun Q hQ => ?_, ff, by rw [upS_ne (by omega), upS_ne (by omega), upS_eq]; exact g4, fun z => ?_⟩
  · have e21i : G1 21 = ((n : Nat) : Int) := e21
    have hw10' : w < 10 := hw10
    (simp (disch := first | with_reducible assumption | omega | decide | (simp only [ps_low, List.map_cons, List.map_nil, Value.category, List.sum_cons, List.sum_nil]; decide)) only [el_X11_readTable_0, el_X11_readTable_4, el_X11_readTable_5, el_X11_readTable_6, el_X11_readTable_12, el_X11_readTable_13, el_X11_readTable_14, el_X11_readTable_14i, el_X11_readTable_15, el_X11_readTable_18, el_X11_readTable_19, el_X11_readTable_20, el_X11_readTable_21, el_X11_readTable_22, el_X11_readTable_25, el_X11_readTable_26, el_X11_readTable_29, el_X11_readTable_31, el_X11_readTable_32, el_X11_readTable_33, el_X11_readTable_34, el_X11_readTable_35, el_X11_readTable_40, el_X11_readTable_41, el_X11_readTable_42, el_X11_readTable_45, el_X11_readTable_47, el_X11_readTable_48, el_X11_readTable_49, el_X11_readTable_50, el_X11_readTable_51, el_X11_readTable_56, el_X11_readTable_57, gf_11_21, gf_11_3, gf_11_4, pf_11_21, px_ifp, px_ifn, zh_1, zc_1, zc_2, zc_3, zc_4, zc_5, zc_6, zc_7, zc_8, zc_9, zc_10, zc_11, zc_12, zc_20, zc_21, zc_22, zp_1, zp_2, zp_3, zp_4, zp_5, zp_6, zp_7, zp_8, zp_9, zp_10, zp_11, zp_12, zp_20, zp_21, zp_22, upS_eq, upS_ne, upS_up, upz_eq, upz_ne, upz_up, px_al_aI, px_as_aI, px_as_aZ, px_as_aC, px_ln_aI, Option.toList, List.cons_append, List.nil_append, Int.reduceAdd, Int.reduceSub, Int.reduceMul, ↓reduceIte, Nat.reduceEqDiff, eq_self, Int.reduceEq, Int.reduceLT, Int.reduceLE, Int.reduceNe, Int.reduceNeg, Int.reduceToNat, ne_eq, not_true_eq_false, not_false_eq_true, t0, t1, t2, t3, t4, t5, t6, t7, t8, t9, t10, t11, t12, t13, t14, t15, t16, t17, t18, t19, t20, t21, t22, t23, t24, t25, t26, t27, t28, t29, t30, t31, t32, t33, t34, t35, el_X11_readTable_1 (r1 ..) _ (zo_12 _) _, e21i, e21', el_X11_readTable_9 (r2 ..) _ (zo_12 _) _, Int.toNat_natCast, zI_shl10, zI_orN, el_X11_readTable_37 (r3 ..) _ (zo_12 _) _, ek, el_X11_readTable_53 (r4 ..) _ (zo_12 _) _]; repeat (first | simp (disch := first | omega | decide) only [upz_srt, upy_upz, upz_up, upS_srt, upT_upS, upS_up] | simp (disch := first | with_reducible assumption | omega | decide | (simp only [ps_low, List.map_cons, List.map_nil, Value.category, List.sum_cons, List.sum_nil]; decide)) only [el_X11_readTable_0, el_X11_readTable_4, el_X11_readTable_5, el_X11_readTable_6, el_X11_readTable_12, el_X11_readTable_13, el_X11_readTable_14, el_X11_readTable_14i, el_X11_readTable_15, el_X11_readTable_18, el_X11_readTable_19, el_X11_readTable_20, el_X11_readTable_21, el_X11_readTable_22, el_X11_readTable_25, el_X11_readTable_26, el_X11_readTable_29, el_X11_readTable_31, el_X11_readTable_32, el_X11_readTable_33, el_X11_readTable_34, el_X11_readTable_35, el_X11_readTable_40, el_X11_readTable_41, el_X11_readTable_42, el_X11_readTable_45, el_X11_readTable_47, el_X11_readTable_48, el_X11_readTable_49, el_X11_readTable_50, el_X11_readTable_51, el_X11_readTable_56, el_X11_readTable_57, gf_11_21, gf_11_3, gf_11_4, pf_11_21, px_ifp, px_ifn, zh_1, zc_1, zc_2, zc_3, zc_4, zc_5, zc_6, zc_7, zc_8, zc_9, zc_10, zc_11, zc_12, zc_20, zc_21, zc_22, zp_1, zp_2, zp_3, zp_4, zp_5, zp_6, zp_7, zp_8, zp_9, zp_10, zp_11, zp_12, zp_20, zp_21, zp_22, upS_eq, upS_ne, upS_up, upz_eq, upz_ne, upz_up, px_al_aI, px_as_aI, px_as_aZ, px_as_aC, px_ln_aI, Option.toList, List.cons_append, List.nil_append, Int.reduceAdd, Int.reduceSub, Int.reduceMul, ↓reduceIte, Nat.reduceEqDiff, eq_self, Int.reduceEq, Int.reduceLT, Int.reduceLE, Int.reduceNe, Int.reduceNeg, Int.reduceToNat, ne_eq, not_true_eq_false, not_false_eq_true, t0, t1, t2, t3, t4, t5, t6, t7, t8, t9, t10, t11, t12, t13, t14, t15, t16, t17, t18, t19, t20, t21, t22, t23, t24, t25, t26, t27, t28, t29, t30, t31, t32, t33, t34, t35, el_X11_readTable_1 (r1 ..) _ (zo_12 _) _, e21i, e21', el_X11_readTable_9 (r2 ..) _ (zo_12 _) _, Int.toNat_natCast, zI_shl10, zI_orN, el_X11_readTable_37 (r3 ..) _ (zo_12 _) _, ek, el_X11_readTable_53 (r4 ..) _ (zo_12 _) _]))
    exact hQ
  · have z3 := tnF_ok (b := b) (F := F3) z
    have z2 := tnF_ok (b := b) (F := F2) (lo := 0) (hi := 20) (by rw [hF3]; exact z3.1)
    have z1 := utF_ok (b := b) (e := P.2.2 1) (F := F1) (by rw [hF2]; exact z2.1)
    have hwu : w = utV F1 := by have := hv z1.2; omega
    rw [← hwu]
    obtain ⟨⟨s0, s1, s2, s3, s4, s5, s6⟩, sa, sk⟩ := hS
    refine ⟨⟨⟨?_, ?_, ?_, ?_, ?_, ?_, ?_⟩, fun j hj => ?_, fun j hj => ?_⟩, ⟨n ||| 2 ^ w, or_lt10 hn hw10, ?_, fun j hj => ?_⟩, n2, hn2, ?_, hbits2⟩
    · simp (disch := omega) only [upS_ne]; exact s0
    · simp (disch := omega) only [upS_ne]; exact s1
    · simp (disch := omega) only [upS_ne]; exact s2
    · simp (disch := omega) only [upS_ne]; exact s3
    · simp (disch := omega) only [upS_ne]; exact s4
    · simp (disch := omega) only [upS_ne]; exact s5
    · simp (disch := omega) only [upS_ne]; exact s6
    · obtain ⟨a1, a2, a3, a4, a5⟩ := sa j hj
      simp (disch := omega) only [upS_ne, upS_eq]
      refine ⟨?_, ?_, a3, a4, a5⟩
      · show upz (S (m + 3)) (10 + w) (nmV 0 20 F2) (10 + j) = upz (P.2.1 1) w (nhV 0 20 F2) j
        by_cases e : j = w
        · rw [e, upz_eq, upz_eq, z2.2]
        · rw [upz_ne (by omega), upz_ne e]
          exact a1
      · show upz (S (m + 4)) (10 + w) (nmV 0 20 F3) (10 + j) = upz (P.2.1 2) w (nhV 0 20 F3) j
        by_cases e : j = w
        · rw [e, upz_eq, upz_eq, z3.2]
        · rw [upz_ne (by omega), upz_ne e]
          exact a2
    · simp (disch := omega) only [upS_ne]
      exact sk j hj
    · rw [upS_ne (by omega), upS_ne (by omega), upS_eq]
      exact n21
    · rw [bt_or]
      show upz (P.2.2 1) w 1 j = _
      by_cases e : j = w
      · rw [e, upz_eq, if_pos rfl]
      · rw [upz_ne e, if_neg e]
        exact hbits j hj
    · rw [upS_ne (by omega), upS_ne (by omega), upS_eq, f4 22 (by decide) (by decide), f3 22 (by decide) (by decide), upz_ne (by omega), f2 22 (by decide) (by decide), f1 22 (by decide) (by decide)]
      exact hn22
theorem tkM.put {b F G : Nat → Int} {k : Nat} {v : Int} (h : tkM b F G) (hk : 20 ≤ k) : tkM b F (upz G k v) := ⟨by rw [upz_ne (by omega)]; exact h.1, by rw [upz_ne (by omega)]; exact h.2.1, fun z => by rw [upz_ne (by omega)]; exact h.2.2.1 z, fun z => by rw [upz_ne (by omega), upz_ne (by omega), upz_ne (by omega), upz_ne (by omega), upz_ne (by omega)]; exact h.2.2.2 z⟩
theorem line_wind {b : Nat → Int} {P : pS} (hm : ly11 T m) (hb : ∀ j, j < 500 → S (m + 10) j = b j) (hbb : tpB b) (hG : tkM b P.1 (S m)) (hF : tpF P.1) (hC : tcx c.2) (h1 : P.1 1 = 0) (hS : stgM S m P.2.1) (hT : tbM S m P.2.2) : lnR 5 155 [.ref m, .retAddr 0] T S c m b (if wdB b P.1 (po_code 6) = true then rdWind b P else (rfF 1 P.1, P.2)) := by
  obtain ⟨t0, t1, t2, t3, t4, t5, t6, t7, t8, t9, t10, t11, t12, t13, t14, t15, t16, t17, t18, t19, t20, t21, t22, t23, t24, t25, t26, t27, t28, t29, t30, t31, t32, t33, t34, t35⟩ := id hm
  have kw := m_is (T := T) (S := S) (c := c) (i := 6) hm hb hbb hG hF hC (by decide)
  have h18 := hG.2.1
  rw [h1] at h18
  have ea6 : (pm_cst (zh T S c)).2.1 6 = c.2.2.1 6 := rfl
  by_cases gw : wdB b P.1 (po_code 6) = true
  · rw [if_pos gw]
    rw [if_pos ⟨h1, gw⟩] at kw
    obtain ⟨F1, hF1⟩ : ∃ F1, adv b P.1 = F1 := ⟨_, rfl⟩
    obtain ⟨F2, hF2⟩ : ∃ F2, utF b (P.2.2 2) F1 = F2 := ⟨_, rfl⟩
    obtain ⟨F3, hF3⟩ : ∃ F3, tgF b 5 F2 = F3 := ⟨_, rfl⟩
    obtain ⟨F4, hF4⟩ : ∃ F4, tgF b 5 F3 = F4 := ⟨_, rfl⟩
    have eP : rdWind b P = (if F4 5 = 2 then tnF b 0 99 F4 else F4, upR (upR (upR P.2.1 3 (upz (P.2.1 3) (utV F1) (tgV b 5 F2))) 4 (upz (P.2.1 4) (utV F1) (tgV b 5 F3))) 5 (upz (P.2.1 5) (utV F1) (if F4 5 = 2 then nhV 0 99 F4 else 1)), upR P.2.2 2 (upz (P.2.2 2) (utV F1) 1)) := by
      unfold rdWind
      rw [hF1]
      dsimp only
      rw [hF2, hF3, hF4]
    rw [eP]
    obtain ⟨⟨n2, hn2, hn22, hbits2⟩, ⟨n, hn, hn21, hbits⟩⟩ := hT
    obtain ⟨G1, r1, g1, f1, -⟩ := m_next (T := T) (S := S) (c := c) hm hb hbb hG hF h1
    have p1 : tpF (adv b P.1) := tpF_adv hF.A
    rw [hF1] at g1 p1
    have e21 : G1 22 = n := by rw [f1 22 (by decide) (by decide)]; exact hn21
    obtain ⟨⟨v, G2, r2, g2, f2, rfl⟩, hv⟩ := m_readOnceOf (T := T) (S := upS S m G1) (c := c) (n := n) (e := P.2.2 2) hm (fun j hj => by rw [upS_ne (by omega)]; exact hb j hj) hbb (by rw [upS_eq]; exact g1) p1 hn hbits
    have p2 : tpF F2 := by rw [← hF2]; exact tpF_ut p1
    rw [upS_up] at r2
    rw [upS_eq] at f2
    rw [hF2] at g2
    obtain ⟨w, hw⟩ : ∃ w : Nat, nmV 0 9 F1 = w := ⟨(nmV 0 9 F1).toNat, by have := nmV_r (F := F1) (show 0 ≤ (0 : Int) ∧ (0 : Int) ≤ 9 by decide); omega⟩
    have hw10 : w < 10 := by have := nmV_r (F := F1) (show 0 ≤ (0 : Int) ∧ (0 : Int) ≤ 9 by decide); omega
    rw [hw] at r2 hv
    have e21' : G2 22 = n := by rw [f2 22 (by decide) (by decide)]; exact e21
    obtain ⟨x3, ⟨v, G3, r3, g3, f3, rfl⟩, hx3⟩ := m_readSigned (T := T) (S := upS S m (upz G2 22 ((n ||| 2 ^ w : Nat) : Int))) (c := c) (F := F2) hm (fun j hj => by rw [upS_ne (by omega)]; exact hb j hj) hbb (by rw [upS_eq]; exact g2.put (by decide)) p2
    have p3 : tpF F3 := by rw [← hF3]; exact tpF_tg p2
    rw [upS_up] at r3
    rw [upS_eq] at f3
    rw [hF3] at g3 hx3
    obtain ⟨x4, ⟨v, G4, r4, g4, f4, rfl⟩, hx4⟩ := m_readSigned (T := T) (S := upS (upS S m G3) (m + 5) (upz (S (m + 5)) (10 + w) x3)) (c := c) (F := F3) hm (fun j hj => by rw [upS_ne (by omega), upS_ne (by omega)]; exact hb j hj) hbb (by rw [upS_ne (by omega), upS_eq]; exact g3) p3
    have p4 : tpF F4 := by rw [← hF4]; exact tpF_tg p3
    rw [upS_srt (a := m) (b := m + 5) (by omega), upT_upS, upS_up] at r4
    rw [upS_ne (by omega), upS_eq] at f4
    rw [hF4] at g4 hx4
    have ek : (10 + (w : Int)).toNat = 10 + w := by omega
    have hr4 := p4.2.2.2
    have h184 := g4.2.1
    -- what is left
    have key : ∀ (G5 : Nat → Int) (x5 : Int), tkM b (if F4 5 = 2 then tnF b 0 99 F4 else F4) G5 → pfM G4 G5 → ((if F4 5 = 2 then tnF b 0 99 F4 else F4) 1 = 0 → x5 = (if F4 5 = 2 then nhV 0 99 F4 else 1) ∧ F4 1 = 0) →
        lnF m S (upS (upS (upS (upS S m G5) (m + 5) (upz (S (m + 5)) (10 + w) x3)) (m + 6) (upz (S (m + 6)) (10 + w) x4)) (m + 7) (upz (S (m + 7)) (10 + w) x5)) ∧ tkM b (if F4 5 = 2 then tnF b 0 99 F4 else F4) ((upS (upS (upS (upS S m G5) (m + 5) (upz (S (m + 5)) (10 + w) x3)) (m + 6) (upz (S (m + 6)) (10 + w) x4)) (m + 7) (upz (S (m + 7)) (10 + w) x5)) m) ∧
          ((if F4 5 = 2 then tnF b 0 99 F4 else F4) 1 = 0 → stgM (upS (upS (upS (upS S m G5) (m + 5) (upz (S (m + 5)) (10 + w) x3)) (m + 6) (upz (S (m + 6)) (10 + w) x4)) (m + 7) (upz (S (m + 7)) (10 + w) x5)) m (upR (upR (upR P.2.1 3 (upz (P.2.1 3) (utV F1) (tgV b 5 F2))) 4 (upz (P.2.1 4) (utV F1) (tgV b 5 F3))) 5 (upz (P.2.1 5) (utV F1) (if F4 5 = 2 then nhV 0 99 F4 else 1))) ∧
            tbM (upS (upS (upS (upS S m G5) (m + 5) (upz (S (m + 5)) (10 + w) x3)) (m + 6) (upz (S (m + 6)) (10 + w) x4)) (m + 7) (upz (S (m + 7)) (10 + w) x5)) m (upR P.2.2 2 (upz (P.2.2 2) (utV F1) 1))) := by
      intro G5 x5 g5 f5 hx5
      have n22 : G5 22 = ((n ||| 2 ^ w : Nat) : Int) := by rw [f5 22 (by decide) (by decide), f4 22 (by decide) (by decide), f3 22 (by decide) (by decide), upz_eq]
      have n21 : G5 21 = n2 := by rw [f5 21 (by decide) (by decide), f4 21 (by decide) (by decide), f3 21 (by decide) (by decide), upz_ne (by omega), f2 21 (by decide) (by decide), f1 21 (by decide) (by decide)]; exact hn22
      refine ⟨?_, by rw [upS_ne (by omega), upS_ne (by omega), upS_ne (by omega), upS_eq]; exact g5, fun z => ?_⟩
      · have e0 : lnF m S (upS S m G5) := ⟨fun a a1 _ => upS_ne a1, fun j j1 j2 j3 j4 => by rw [upS_eq, f5 j j1 j2, f4 j j1 j2, f3 j j1 j2, upz_ne j4, f2 j j1 j2, f1 j j1 j2], fun j _ => by rw [upS_ne (by omega)], fun a j _ _ _ => by rw [upS_ne (by omega)]⟩
        have e1 := e0.trans (lnF.arr (m := m) (a0 := 5) (k := 10 + w) (v := x3) (by decide) (by omega))
        rw [upS_ne (by omega)] at e1
        have e2 := e1.trans (lnF.arr (m := m) (a0 := 6) (k := 10 + w) (v := x4) (by decide) (by omega))
        rw [upS_ne (by omega), upS_ne (by omega)] at e2
        have e3 := e2.trans (lnF.arr (m := m) (a0 := 7) (k := 10 + w) (v := x5) (by decide) (by omega))
        rw [upS_ne (by omega), upS_ne (by omega), upS_ne (by omega)] at e3
        exact e3
      · obtain ⟨ex5, z4⟩ := hx5 z
        have ex4 := hx4 z4
        have z3 := tgF_ok (b := b) (F := F3) (hi := 5) (by rw [hF4]; exact z4)
        have ex3 := hx3 z3
        have z2 := tgF_ok (b := b) (F := F2) (hi := 5) (by rw [hF3]; exact z3)
        have z1 := utF_ok (b := b) (e := P.2.2 2) (F := F1) (by rw [hF2]; exact z2)
        have hwu : w = utV F1 := by have := hv z1.2; omega
        rw [← hwu]
        obtain ⟨⟨s0, s1, s2, s3, s4, s5, s6⟩, sa, sk⟩ := hS
        refine ⟨⟨⟨?_, ?_, ?_, ?_, ?_, ?_, ?_⟩, fun j hj => ?_, fun j hj => ?_⟩, ⟨n2, hn2, ?_, hbits2⟩, n ||| 2 ^ w, or_lt10 hn hw10, ?_, fun j hj => ?_⟩
        · simp (disch := omega) only [upS_ne]; exact s0
        · simp (disch := omega) only [upS_ne]; exact s1
        · simp (disch := omega) only [upS_ne]; exact s2
        · simp (disch := omega) only [upS_ne]; exact s3
        · simp (disch := omega) only [upS_ne]; exact s4
        · simp (disch := omega) only [upS_ne]; exact s5
        · simp (disch := omega) only [upS_ne]; exact s6
        · obtain ⟨a1, a2, a3, a4, a5⟩ := sa j hj
          simp (disch := omega) only [upS_ne, upS_eq]
          refine ⟨a1, a2, ?_, ?_, ?_⟩
          · show upz (S (m + 5)) (10 + w) x3 (10 + j) = upz (P.2.1 3) w (tgV b 5 F2) j
            by_cases e : j = w
            · rw [e, upz_eq, upz_eq, ex3]
            · rw [upz_ne (by omega), upz_ne e]
              exact a3
          · show upz (S (m + 6)) (10 + w) x4 (10 + j) = upz (P.2.1 4) w (tgV b 5 F3) j
            by_cases e : j = w
            · rw [e, upz_eq, upz_eq, ex4]
            · rw [upz_ne (by omega), upz_ne e]
              exact a4
          · show upz (S (m + 7)) (10 + w) x5 (10 + j) = upz (P.2.1 5) w (if F4 5 = 2 then nhV 0 99 F4 else 1) j
            by_cases e : j = w
            · rw [e, upz_eq, upz_eq, ex5]
            · rw [upz_ne (by omega), upz_ne e]
              exact a5
        · simp (disch := omega) only [upS_ne]
          exact sk j hj
        · rw [upS_ne (by omega), upS_ne (by omega), upS_ne (by omega), upS_eq]
          exact n21
        · rw [upS_ne (by omega), upS_ne (by omega), upS_ne (by omega), upS_eq]
          exact n22
        · rw [bt_or]
          show upz (P.2.2 2) w 1 j = _
          by_cases e : j = w
          · rw [e, upz_eq, if_pos rfl]
          · rw [upz_ne e, if_neg e]
            exact hbits j hj
    by_cases z4 : F4 1 = 0
    · have t4 := (g4.2.2.2 z4).1.2.2.2
      rw [z4] at h184
      by_cases g5 : F4 5 = 2
      · have e14 : G4 14 = 2 := by rw [t4, g5]; rfl
        obtain ⟨v, G5, r5, y5, f5, rfl⟩ := m_readNumber (T := T) (S := upS (upS (upS S m G4) (m + 5) (upz (S (m + 5)) (10 + w) x3)) (m + 6) (upz (S (m + 6)) (10 + w) x4)) (c := c) (lo := 0) (hi := 99) (F := F4) hm (fun j hj => by rw [upS_ne (by omega), upS_ne (by omega), upS_ne (by omega)]; exact hb j hj) hbb (by rw [upS_ne (by omega), upS_ne (by omega), upS_eq]; exact g4) p4 (by decide) (by decide)
        rw [upS_srt (a := m) (b := m + 6) (by omega), upT_upS, upS_srt (a := m) (b := m + 5) (by omega), upT_upS, upS_up] at r5
        rw [upS_ne (by omega), upS_ne (by omega), upS_eq] at f5
        obtain ⟨k1, k2, k3⟩ := key G5 (nmV 0 99 F4) (by rw [if_pos g5]; exact y5) f5 (fun z => by rw [if_pos g5] at z ⊢; have := tnF_ok (b := b) (F := F4) z; exact ⟨this.2, this.1⟩)
        refine ⟨_, px_ofQ fun Q hQ => ?_, k1, k2, k3⟩
        (simp (disch := first | with_reducible assumption | omega | decide | (simp only [ps_low, List.map_cons, List.map_nil, Value.category, List.sum_cons, List.sum_nil]; decide)) only [el_X11_readWind_0, el_X11_readWind_1, el_X11_readWind_6, el_X11_readWind_9, el_X11_readWind_10, el_X11_readWind_14, el_X11_readWind_15, el_X11_readWind_18, el_X11_readWind_21, el_X11_readWind_22, el_X11_readWind_26, el_X11_readWind_27, el_X11_readWind_28, el_X11_readWind_34, el_X11_readWind_35, el_X11_readWind_36, el_X11_readWind_36i, el_X11_readWind_37, el_X11_readWind_40, el_X11_readWind_41, el_X11_readWind_42, el_X11_readWind_43, el_X11_readWind_44, el_X11_readWind_47, el_X11_readWind_48, el_X11_readWind_51, el_X11_readWind_53, el_X11_readWind_54, el_X11_readWind_55, el_X11_readWind_59, el_X11_readWind_60, el_X11_readWind_61, el_X11_readWind_64, el_X11_readWind_66, el_X11_readWind_67, el_X11_readWind_68, el_X11_readWind_72, el_X11_readWind_73, el_X11_readWind_74, el_X11_readWind_77, el_X11_readWind_79, el_X11_readWind_80, el_X11_readWind_81, el_X11_readWind_82, el_X11_readWind_85, el_X11_readWind_88, el_X11_readWind_89, el_X11_readWind_92, el_X11_readWind_93, el_X11_readWind_96, el_X11_readWind_97, el_X11_readWind_98, el_X11_readWind_103, el_X11_readWind_106, el_X11_readWind_107, el_X11_readWind_108, gf_11_14, gf_11_18, gf_11_22, gf_11_5, gf_11_6, gf_11_7, pf_11_22, px_ifp, px_ifn, zh_1, zc_1, zc_2, zc_3, zc_4, zc_5, zc_6, zc_7, zc_8, zc_9, zc_10, zc_11, zc_12, zc_20, zc_21, zc_22, zp_1, zp_2, zp_3, zp_4, zp_5, zp_6, zp_7, zp_8, zp_9, zp_10, zp_11, zp_12, zp_20, zp_21, zp_22, upS_eq, upS_ne, upS_up, upz_eq, upz_ne, upz_up, px_al_aI, px_as_aI, px_as_aZ, px_as_aC, px_ln_aI, Option.toList, List.cons_append, List.nil_append, Int.reduceAdd, Int.reduceSub, Int.reduceMul, ↓reduceIte, Nat.reduceEqDiff, eq_self, Int.reduceEq, Int.reduceLT, Int.reduceLE, Int.reduceNe, Int.reduceNeg, Int.reduceToNat, ne_eq, not_true_eq_false, not_false_eq_true, t0, t1, t2, t3, t4, t5, t6, t7, t8, t9, t10, t11, t12, t13, t14, t15, t16, t17, t18, t19, t20, t21, t22, t23, t24, t25, t26, t27, t28, t29, t30, t31, t32, t33, t34, t35, ea6, el_X11_readWind_3 (kw ..) _ (zo_12 _) _, h18, el_X11_readWind_23 (r1 ..) _ (zo_12 _) _, e21, e21', el_X11_readWind_31 (r2 ..) _ (zo_12 _) _, Int.toNat_natCast, zI_shl10, zI_orN, ek, el_X11_readWind_56 (r3 ..) _ (zo_12 _) _, el_X11_readWind_69 (r4 ..) _ (zo_12 _) _, h184, e14, el_X11_readWind_100 (r5 ..) _ (zo_12 _) _]; repeat (first | simp (disch := first | omega | decide) only [upz_srt, upy_upz, upz_up, upS_srt, upT_upS, upS_up] | simp (disch := first | with_reducible assumption | omega | decide | (simp only [ps_low, List.map_cons, List.map_nil, Value.category, List.sum_cons, List.sum_nil]; decide)) only [el_X11_readWind_0, el_X11_readWind_1, el_X11_readWind_6, el_X11_readWind_9, el_X11_readWind_10, el_X11_readWind_14, el_X11_readWind_15, el_X11_readWind_18, el_X11_readWind_21, el_X11_readWind_22, el_X11_readWind_26, el_X11_readWind_27, el_X11_readWind_28, el_X11_readWind_34, el_X11_readWind_35, el_X11_readWind_36, el_X11_readWind_36i, el_X11_readWind_37, el_X11_readWind_40, el_X11_readWind_41, el_X11_readWind_42, el_X11_readWind_43, el_X11_readWind_44, el_X11_readWind_47, el_X11_readWind_48, el_X11_readWind_51, el_X11_readWind_53, el_X11_readWind_54, el_X11_readWind_55, el_X11_readWind_59, el_X11_readWind_60, el_X11_readWind_61, el_X11_readWind_64, el_X11_readWind_66, el_X11_readWind_67, el_X11_readWind_68, el_X11_readWind_72, el_X11_readWind_73, el_X11_readWind_74, el_X11_readWind_77, el_X11_readWind_79, el_X11_readWind_80, el_X11_readWind_81, el_X11_readWind_82, el_X11_readWind_85, el_X11_readWind_88, el_X11_readWind_89, el_X11_readWind_92, el_X11_readWind_93, el_X11_readWind_96, el_X11_readWind_97, el_X11_readWind_98, el_X11_readWind_103, el_X11_readWind_106, el_X11_readWind_107, el_X11_readWind_108, gf_11_14, gf_11_18, gf_11_22, gf_11_5, gf_11_6, gf_11_7, pf_11_22, px_ifp, px_ifn, zh_1, zc_1, zc_2, zc_3, zc_4, zc_5, zc_6, zc_7, zc_8, zc_9, zc_10, zc_11, zc_12, zc_20, zc_21, zc_22, zp_1, zp_2, zp_3, zp_4, zp_5, zp_6, zp_7, zp_8, zp_9, zp_10, zp_11, zp_12, zp_20, zp_21, zp_22, upS_eq, upS_ne, upS_up, upz_eq, upz_ne, upz_up, px_al_aI, px_as_aI, px_as_aZ, px_as_aC, px_ln_aI, Option.toList, List.cons_append, List.nil_append, Int.reduceAdd, Int.reduceSub, Int.reduceMul, ↓reduceIte, Nat.reduceEqDiff, eq_self, Int.reduceEq, Int.reduceLT, Int.reduceLE, Int.reduceNe, Int.reduceNeg, Int.reduceToNat, ne_eq, not_true_eq_false, not_false_eq_true, t0, t1, t2, t3, t4, t5, t6, t7, t8, t9, t10, t11, t12, t13, t14, t15, t16, t17, t18, t19, t20, t21, t22, t23, t24, t25, t26, t27, t28, t29, t30, t31, t32, t33, t34, t35, ea6, el_X11_readWind_3 (kw ..) _ (zo_12 _) _, h18, el_X11_readWind_23 (r1 ..) _ (zo_12 _) _, e21, e21', el_X11_readWind_31 (r2 ..) _ (zo_12 _) _, Int.toNat_natCast, zI_shl10, zI_orN, ek, el_X11_readWind_56 (r3 ..) _ (zo_12 _) _, el_X11_readWind_69 (r4 ..) _ (zo_12 _) _, h184, e14, el_X11_readWind_100 (r5 ..) _ (zo_12 _) _]))
        exact hQ
      · have p5 := p4.2.1
        have e14 : G4 14 ≠ 2 ∧ -100 ≤ G4 14 ∧ G4 14 ≤ 100 := by rw [t4]; unfold tkK; (repeat' split) <;> omega
        obtain ⟨k1, k2, k3⟩ := key G4 1 (by rw [if_neg g5]; exact g4) .refl (fun z => ⟨by rw [if_neg g5], z4⟩)
        refine ⟨_, px_ofQ fun Q hQ => ?_, k1, k2, k3⟩
        (simp (disch := first | with_reducible assumption | omega | decide | (simp only [ps_low, List.map_cons, List.map_nil, Value.category, List.sum_cons, List.sum_nil]; decide)) only [el_X11_readWind_0, el_X11_readWind_1, el_X11_readWind_6, el_X11_readWind_9, el_X11_readWind_10, el_X11_readWind_14, el_X11_readWind_15, el_X11_readWind_18, el_X11_readWind_21, el_X11_readWind_22, el_X11_readWind_26, el_X11_readWind_27, el_X11_readWind_28, el_X11_readWind_34, el_X11_readWind_35, el_X11_readWind_36, el_X11_readWind_36i, el_X11_readWind_37, el_X11_readWind_40, el_X11_readWind_41, el_X11_readWind_42, el_X11_readWind_43, el_X11_readWind_44, el_X11_readWind_47, el_X11_readWind_48, el_X11_readWind_51, el_X11_readWind_53, el_X11_readWind_54, el_X11_readWind_55, el_X11_readWind_59, el_X11_readWind_60, el_X11_readWind_61, el_X11_readWind_64, el_X11_readWind_66, el_X11_readWind_67, el_X11_readWind_68, el_X11_readWind_72, el_X11_readWind_73, el_X11_readWind_74, el_X11_readWind_77, el_X11_readWind_79, el_X11_readWind_80, el_X11_readWind_81, el_X11_readWind_82, el_X11_readWind_85, el_X11_readWind_88, el_X11_readWind_89, el_X11_readWind_92, el_X11_readWind_93, el_X11_readWind_96, el_X11_readWind_97, el_X11_readWind_98, el_X11_readWind_103, el_X11_readWind_106, el_X11_readWind_107, el_X11_readWind_108, gf_11_14, gf_11_18, gf_11_22, gf_11_5, gf_11_6, gf_11_7, pf_11_22, px_ifp, px_ifn, zh_1, zc_1, zc_2, zc_3, zc_4, zc_5, zc_6, zc_7, zc_8, zc_9, zc_10, zc_11, zc_12, zc_20, zc_21, zc_22, zp_1, zp_2, zp_3, zp_4, zp_5, zp_6, zp_7, zp_8, zp_9, zp_10, zp_11, zp_12, zp_20, zp_21, zp_22, upS_eq, upS_ne, upS_up, upz_eq, upz_ne, upz_up, px_al_aI, px_as_aI, px_as_aZ, px_as_aC, px_ln_aI, Option.toList, List.cons_append, List.nil_append, Int.reduceAdd, Int.reduceSub, Int.reduceMul, ↓reduceIte, Nat.reduceEqDiff, eq_self, Int.reduceEq, Int.reduceLT, Int.reduceLE, Int.reduceNe, Int.reduceNeg, Int.reduceToNat, ne_eq, not_true_eq_false, not_false_eq_true, t0, t1, t2, t3, t4, t5, t6, t7, t8, t9, t10, t11, t12, t13, t14, t15, t16, t17, t18, t19, t20, t21, t22, t23, t24, t25, t26, t27, t28, t29, t30, t31, t32, t33, t34, t35, ea6, el_X11_readWind_3 (kw ..) _ (zo_12 _) _, h18, el_X11_readWind_23 (r1 ..) _ (zo_12 _) _, e21, e21', el_X11_readWind_31 (r2 ..) _ (zo_12 _) _, Int.toNat_natCast, zI_shl10, zI_orN, ek, el_X11_readWind_56 (r3 ..) _ (zo_12 _) _, el_X11_readWind_69 (r4 ..) _ (zo_12 _) _, h184]; repeat (first | simp (disch := first | omega | decide) only [upz_srt, upy_upz, upz_up, upS_srt, upT_upS, upS_up] | simp (disch := first | with_reducible assumption | omega | decide | (simp only [ps_low, List.map_cons, List.map_nil, Value.category, List.sum_cons, List.sum_nil]; decide)) only [el_X11_readWind_0, el_X11_readWind_1, el_X11_readWind_6, el_X11_readWind_9, el_X11_readWind_10, el_X11_readWind_14, el_X11_readWind_15, el_X11_readWind_18, el_X11_readWind_21, el_X11_readWind_22, el_X11_readWind_26, el_X11_readWind_27, el_X11_readWind_28, el_X11_readWind_34, el_X11_readWind_35, el_X11_readWind_36, el_X11_readWind_36i, el_X11_readWind_37, el_X11_readWind_40, el_X11_readWind_41, el_X11_readWind_42, el_X11_readWind_43, el_X11_readWind_44, el_X11_readWind_47, el_X11_readWind_48, el_X11_readWind_51, el_X11_readWind_53, el_X11_readWind_54, el_X11_readWind_55, el_X11_readWind_59, el_X11_readWind_60, el_X11_readWind_61, el_X11_readWind_64, el_X11_readWind_66, el_X11_readWind_67, el_X11_readWind_68, el_X11_readWind_72, el_X11_readWind_73, el_X11_readWind_74, el_X11_readWind_77, el_X11_readWind_79, el_X11_readWind_80, el_X11_readWind_81, el_X11_readWind_82, el_X11_readWind_85, el_X11_readWind_88, el_X11_readWind_89, el_X11_readWind_92, el_X11_readWind_93, el_X11_readWind_96, el_X11_readWind_97, el_X11_readWind_98, el_X11_readWind_103, el_X11_readWind_106, el_X11_readWind_107, el_X11_readWind_108, gf_11_14, gf_11_18, gf_11_22, gf_11_5, gf_11_6, gf_11_7, pf_11_22, px_ifp, px_ifn, zh_1, zc_1, zc_2, zc_3, zc_4, zc_5, zc_6, zc_7, zc_8, zc_9, zc_10, zc_11, zc_12, zc_20, zc_21, zc_22, zp_1, zp_2, zp_3, zp_4, zp_5, zp_6, zp_7, zp_8, zp_9, zp_10, zp_11, zp_12, zp_20, zp_21, zp_22, upS_eq, upS_ne, upS_up, upz_eq, upz_ne, upz_up, px_al_aI, px_as_aI, px_as_aZ, px_as_aC, px_ln_aI, Option.toList, List.cons_append, List.nil_append, Int.reduceAdd, Int.reduceSub, Int.reduceMul, ↓reduceIte, Nat.reduceEqDiff, eq_self, Int.reduceEq, Int.reduceLT, Int.reduceLE, Int.reduceNe, Int.reduceNeg, Int.reduceToNat, ne_eq, not_true_eq_false, not_false_eq_true, t0, t1, t2, t3, t4, t5, t6, t7, t8, t9, t10, t11, t12, t13, t14, t15, t16, t17, t18, t19, t20, t21, t22, t23, t24, t25, t26, t27, t28, t29, t30, t31, t32, t33, t34, t35, ea6, el_X11_readWind_3 (kw ..) _ (zo_12 _) _, h18, el_X11_readWind_23 (r1 ..) _ (zo_12 _) _, e21, e21', el_X11_readWind_31 (r2 ..) _ (zo_12 _) _, Int.toNat_natCast, zI_shl10, zI_orN, ek, el_X11_readWind_56 (r3 ..) _ (zo_12 _) _, el_X11_readWind_69 (r4 ..) _ (zo_12 _) _, h184]))
        exact hQ
    · have eb : (if F4 5 = 2 then tnF b 0 99 F4 else F4) 1 = F4 1 ∧ (if F4 5 = 2 then tnF b 0 99 F4 else F4) 2 = F4 2 ∧ (if F4 5 = 2 then tnF b 0 99 F4 else F4) 4 = F4 4 := by
        split
        · unfold tnF
          rw [nhF_f.2.2.2.2.1 z4]
          exact ⟨rfl, rfl, rfl⟩
        · exact ⟨rfl, rfl, rfl⟩
      obtain ⟨k1, k2, k3⟩ := key G4 1 (g4.bad z4 eb.2.2 eb.1 eb.2.1) .refl (fun z => absurd (eb.1 ▸ z) z4)
      refine ⟨_, px_ofQ fun Q hQ => ?_, k1, k2, k3⟩
      (simp (disch := first | with_reducible assumption | omega | decide | (simp only [ps_low, List.map_cons, List.map_nil, Value.category, List.sum_cons, List.sum_nil]; decide)) only [el_X11_readWind_0, el_X11_readWind_1, el_X11_readWind_6, el_X11_readWind_9, el_X11_readWind_10, el_X11_readWind_14, el_X11_readWind_15, el_X11_readWind_18, el_X11_readWind_21, el_X11_readWind_22, el_X11_readWind_26, el_X11_readWind_27, el_X11_readWind_28, el_X11_readWind_34, el_X11_readWind_35, el_X11_readWind_36, el_X11_readWind_36i, el_X11_readWind_37, el_X11_readWind_40, el_X11_readWind_41, el_X11_readWind_42, el_X11_readWind_43, el_X11_readWind_44, el_X11_readWind_47, el_X11_readWind_48, el_X11_readWind_51, el_X11_readWind_53, el_X11_readWind_54, el_X11_readWind_55, el_X11_readWind_59, el_X11_readWind_60, el_X11_readWind_61, el_X11_readWind_64, el_X11_readWind_66, el_X11_readWind_67, el_X11_readWind_68, el_X11_readWind_72, el_X11_readWind_73, el_X11_readWind_74, el_X11_readWind_77, el_X11_readWind_79, el_X11_readWind_80, el_X11_readWind_81, el_X11_readWind_82, el_X11_readWind_85, el_X11_readWind_88, el_X11_readWind_89, el_X11_readWind_92, el_X11_readWind_93, el_X11_readWind_96, el_X11_readWind_97, el_X11_readWind_98, el_X11_readWind_103, el_X11_readWind_106, el_X11_readWind_107, el_X11_readWind_108, gf_11_14, gf_11_18, gf_11_22, gf_11_5, gf_11_6, gf_11_7, pf_11_22, px_ifp, px_ifn, zh_1, zc_1, zc_2, zc_3, zc_4, zc_5, zc_6, zc_7, zc_8, zc_9, zc_10, zc_11, zc_12, zc_20, zc_21, zc_22, zp_1, zp_2, zp_3, zp_4, zp_5, zp_6, zp_7, zp_8, zp_9, zp_10, zp_11, zp_12, zp_20, zp_21, zp_22, upS_eq, upS_ne, upS_up, upz_eq, upz_ne, upz_up, px_al_aI, px_as_aI, px_as_aZ, px_as_aC, px_ln_aI, Option.toList, List.cons_append, List.nil_append, Int.reduceAdd, Int.reduceSub, Int.reduceMul, ↓reduceIte, Nat.reduceEqDiff, eq_self, Int.reduceEq, Int.reduceLT, Int.reduceLE, Int.reduceNe, Int.reduceNeg, Int.reduceToNat, ne_eq, not_true_eq_false, not_false_eq_true, t0, t1, t2, t3, t4, t5, t6, t7, t8, t9, t10, t11, t12, t13, t14, t15, t16, t17, t18, t19, t20, t21, t22, t23, t24, t25, t26, t27, t28, t29, t30, t31, t32, t33, t34, t35, ea6, el_X11_readWind_3 (kw ..) _ (zo_12 _) _, h18, el_X11_readWind_23 (r1 ..) _ (zo_12 _) _, e21, e21', el_X11_readWind_31 (r2 ..) _ (zo_12 _) _, Int.toNat_natCast, zI_shl10, zI_orN, ek, el_X11_readWind_56 (r3 ..) _ (zo_12 _) _, el_X11_readWind_69 (r4 ..) _ (zo_12 _) _, h184]; repeat (first | simp (disch := first | omega | decide) only [upz_srt, upy_upz, upz_up, upS_srt, upT_upS, upS_up] | simp (disch := first | with_reducible assumption | omega | decide | (simp only [ps_low, List.map_cons, List.map_nil, Value.category, List.sum_cons, List.sum_nil]; decide)) only [el_X11_readWind_0, el_X11_readWind_1, el_X11_readWind_6, el_X11_readWind_9, el_X11_readWind_10, el_X11_readWind_14, el_X11_readWind_15, el_X11_readWind_18, el_X11_readWind_21, el_X11_readWind_22, el_X11_readWind_26, el_X11_readWind_27, el_X11_readWind_28, el_X11_readWind_34, el_X11_readWind_35, el_X11_readWind_36, el_X11_readWind_36i, el_X11_readWind_37, el_X11_readWind_40, el_X11_readWind_41, el_X11_readWind_42, el_X11_readWind_43, el_X11_readWind_44, el_X11_readWind_47, el_X11_readWind_48, el_X11_readWind_51, el_X11_readWind_53, el_X11_readWind_54, el_X11_readWind_55, el_X11_readWind_59, el_X11_readWind_60, el_X11_readWind_61, el_X11_readWind_64, el_X11_readWind_66, el_X11_readWind_67, el_X11_readWind_68, el_X11_readWind_72, el_X11_readWind_73, el_X11_readWind_74, el_X11_readWind_77, el_X11_readWind_79, el_X11_readWind_80, el_X11_readWind_81, el_X11_readWind_82, el_X11_readWind_85, el_X11_readWind_88, el_X11_readWind_89, el_X11_readWind_92, el_X11_readWind_93, el_X11_readWind_96, el_X11_readWind_97, el_X11_readWind_98, el_X11_readWind_103, el_X11_readWind_106, el_X11_readWind_107, el_X11_readWind_108, gf_11_14, gf_11_18, gf_11_22, gf_11_5, gf_11_6, gf_11_7, pf_11_22, px_ifp, px_ifn, zh_1, zc_1, zc_2, zc_3, zc_4, zc_5, zc_6, zc_7, zc_8, zc_9, zc_10, zc_11, zc_12, zc_20, zc_21, zc_22, zp_1, zp_2, zp_3, zp_4, zp_5, zp_6, zp_7, zp_8, zp_9, zp_10, zp_11, zp_12, zp_20, zp_21, zp_22, upS_eq, upS_ne, upS_up, upz_eq, upz_ne, upz_up, px_al_aI, px_as_aI, px_as_aZ, px_as_aC, px_ln_aI, Option.toList, List.cons_append, List.nil_append, Int.reduceAdd, Int.reduceSub, Int.reduceMul, ↓reduceIte, Nat.reduceEqDiff, eq_self, Int.reduceEq, Int.reduceLT, Int.reduceLE, Int.reduceNe, Int.reduceNeg, Int.reduceToNat, ne_eq, not_true_eq_false, not_false_eq_true, t0, t1, t2, t3, t4, t5, t6, t7, t8, t9, t10, t11, t12, t13, t14, t15, t16, t17, t18, t19, t20, t21, t22, t23, t24, t25, t26, t27, t28, t29, t30, t31, t32, t33, t34, t35, ea6, el_X11_readWind_3 (kw ..) _ (zo_12 _) _, h18, el_X11_readWind_23 (r1 ..) _ (zo_12 _) _, e21, e21', el_X11_readWind_31 (r2 ..) _ (zo_12 _) _, Int.toNat_natCast, zI_shl10, zI_orN, ek, el_X11_readWind_56 (r3 ..) _ (zo_12 _) _, el_X11_readWind_69 (r4 ..) _ (zo_12 _) _, h184]))
      exact hQ
  · rw [if_neg gw]
    rw [if_neg (fun z => gw z.2)] at kw
    obtain ⟨v, G, r1, g1, f1, rfl⟩ := m_wrong (T := T) (S := S) (c := c) (k := 1) hm hG hF (by decide)
    have er := (rfF_f (k := 1) (F := P.1)).2.2.2.2.2.1 h1
    have e18 : G 18 = 1 := by rw [g1.2.1, er.1]
    refine ⟨upS S m G, px_ofQ fun Q hQ => ?_, .fields f1, by rw [upS_eq]; exact g1, fun z => by have z' : rfF 1 P.1 1 = 0 := z; rw [er.1] at z'; exact absurd z' (by decide)⟩
    (simp (disch := first | with_reducible assumption | omega | decide | (simp only [ps_low, List.map_cons, List.map_nil, Value.category, List.sum_cons, List.sum_nil]; decide)) only [el_X11_readWind_0, el_X11_readWind_1, el_X11_readWind_6, el_X11_readWind_9, el_X11_readWind_10, el_X11_readWind_14, el_X11_readWind_15, el_X11_readWind_18, el_X11_readWind_21, el_X11_readWind_22, el_X11_readWind_26, el_X11_readWind_27, el_X11_readWind_28, el_X11_readWind_34, el_X11_readWind_35, el_X11_readWind_36, el_X11_readWind_36i, el_X11_readWind_37, el_X11_readWind_40, el_X11_readWind_41, el_X11_readWind_42, el_X11_readWind_43, el_X11_readWind_44, el_X11_readWind_47, el_X11_readWind_48, el_X11_readWind_51, el_X11_readWind_53, el_X11_readWind_54, el_X11_readWind_55, el_X11_readWind_59, el_X11_readWind_60, el_X11_readWind_61, el_X11_readWind_64, el_X11_readWind_66, el_X11_readWind_67, el_X11_readWind_68, el_X11_readWind_72, el_X11_readWind_73, el_X11_readWind_74, el_X11_readWind_77, el_X11_readWind_79, el_X11_readWind_80, el_X11_readWind_81, el_X11_readWind_82, el_X11_readWind_85, el_X11_readWind_88, el_X11_readWind_89, el_X11_readWind_92, el_X11_readWind_93, el_X11_readWind_96, el_X11_readWind_97, el_X11_readWind_98, el_X11_readWind_103, el_X11_readWind_106, el_X11_readWind_107, el_X11_readWind_108, gf_11_14, gf_11_18, gf_11_22, gf_11_5, gf_11_6, gf_11_7, pf_11_22, px_ifp, px_ifn, zh_1, zc_1, zc_2, zc_3, zc_4, zc_5, zc_6, zc_7, zc_8, zc_9, zc_10, zc_11, zc_12, zc_20, zc_21, zc_22, zp_1, zp_2, zp_3, zp_4, zp_5, zp_6, zp_7, zp_8, zp_9, zp_10, zp_11, zp_12, zp_20, zp_21, zp_22, upS_eq, upS_ne, upS_up, upz_eq, upz_ne, upz_up, px_al_aI, px_as_aI, px_as_aZ, px_as_aC, px_ln_aI, Option.toList, List.cons_append, List.nil_append, Int.reduceAdd, Int.reduceSub, Int.reduceMul, ↓reduceIte, Nat.reduceEqDiff, eq_self, Int.reduceEq, Int.reduceLT, Int.reduceLE, Int.reduceNe, Int.reduceNeg, Int.reduceToNat, ne_eq, not_true_eq_false, not_false_eq_true, t0, t1, t2, t3, t4, t5, t6, t7, t8, t9, t10, t11, t12, t13, t14, t15, t16, t17, t18, t19, t20, t21, t22, t23, t24, t25, t26, t27, t28, t29, t30, t31, t32, t33, t34, t35, ea6, el_X11_readWind_3 (kw ..) _ (zo_12 _) _, el_X11_readWind_11 (r1 ..) _ (zo_12 _) _, e18]; repeat (first | simp (disch := first | omega | decide) only [upz_srt, upy_upz, upz_up, upS_srt, upT_upS, upS_up] | simp (disch := first | with_reducible assumption | omega | decide | (simp only [ps_low, List.map_cons, List.map_nil, Value.category, List.sum_cons, List.sum_nil]; decide)) only [el_X11_readWind_0, el_X11_readWind_1, el_X11_readWind_6, el_X11_readWind_9, el_X11_readWind_10, el_X11_readWind_14, el_X11_readWind_15, el_X11_readWind_18, el_X11_readWind_21, el_X11_readWind_22, el_X11_readWind_26, el_X11_readWind_27, el_X11_readWind_28, el_X11_readWind_34, el_X11_readWind_35, el_X11_readWind_36, el_X11_readWind_36i, el_X11_readWind_37, el_X11_readWind_40, el_X11_readWind_41, el_X11_readWind_42, el_X11_readWind_43, el_X11_readWind_44, el_X11_readWind_47, el_X11_readWind_48, el_X11_readWind_51, el_X11_readWind_53, el_X11_readWind_54, el_X11_readWind_55, el_X11_readWind_59, el_X11_readWind_60, el_X11_readWind_61, el_X11_readWind_64, el_X11_readWind_66, el_X11_readWind_67, el_X11_readWind_68, el_X11_readWind_72, el_X11_readWind_73, el_X11_readWind_74, el_X11_readWind_77, el_X11_readWind_79, el_X11_readWind_80, el_X11_readWind_81, el_X11_readWind_82, el_X11_readWind_85, el_X11_readWind_88, el_X11_readWind_89, el_X11_readWind_92, el_X11_readWind_93, el_X11_readWind_96, el_X11_readWind_97, el_X11_readWind_98, el_X11_readWind_103, el_X11_readWind_106, el_X11_readWind_107, el_X11_readWind_108, gf_11_14, gf_11_18, gf_11_22, gf_11_5, gf_11_6, gf_11_7, pf_11_22, px_ifp, px_ifn, zh_1, zc_1, zc_2, zc_3, zc_4, zc_5, zc_6, zc_7, zc_8, zc_9, zc_10, zc_11, zc_12, zc_20, zc_21, zc_22, zp_1, zp_2, zp_3, zp_4, zp_5, zp_6, zp_7, zp_8, zp_9, zp_10, zp_11, zp_12, zp_20, zp_21, zp_22, upS_eq, upS_ne, upS_up, upz_eq, upz_ne, upz_up, px_al_aI, px_as_aI, px_as_aZ, px_as_aC, px_ln_aI, Option.toList, List.cons_append, List.nil_append, Int.reduceAdd, Int.reduceSub, Int.reduceMul, ↓reduceIte, Nat.reduceEqDiff, eq_self, Int.reduceEq, Int.reduceLT, Int.reduceLE, Int.reduceNe, Int.reduceNeg, Int.reduceToNat, ne_eq, not_true_eq_false, not_false_eq_true, t0, t1, t2, t3, t4, t5, t6, t7, t8, t9, t10, t11, t12, t13, t14, t15, t16, t17, t18, t19, t20, t21, t22, t23, t24, t25, t26, t27, t28, t29, t30, t31, t32, t33, t34, t35, ea6, el_X11_readWind_3 (kw ..) _ (zo_12 _) _, el_X11_readWind_11 (r1 ..) _ (zo_12 _) _, e18]))
    exact hQ
end MODEL
