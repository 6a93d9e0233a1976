/-! THE FACE, 8: evening -/
theorem tmM_congr {n : Nat} {z z' : Nat → Int} : ∀ (k i : Nat), i < tmN n k → tmM n z k i = tmM n z' k i
  | 0, i, hi => absurd hi (Nat.not_lt_zero i)
  | k + 1, i, hi => by
    unfold tmM
    unfold tmN at hi
    have hb := btN_r n k
    have eb : btN n k = ((n >>> k &&& 1 : Nat) : Int) := rfl
    split
    · exact tmM_congr k i (by omega)
    · unfold upz
      split
      · rfl
      · exact tmM_congr k i (by omega)
theorem tmM_at {n : Nat} {z : Nat → Int} {j : Nat} (hj : btN n j = 1) : ∀ k, j < k → tmM n z k (tmN n j) = j ∧ tmN n j < tmN n k
  | 0, h => absurd h (Nat.not_lt_zero j)
  | k + 1, h => by
    have ek : tmN n (k + 1) = tmN n k + (n >>> k &&& 1) := rfl
    have eb : ∀ k, btN n k = ((n >>> k &&& 1 : Nat) : Int) := fun _ => rfl
    by_cases e : j = k
    · subst e
      have := eb j
      unfold tmM
      rw [if_neg (by omega), upz_eq]
      exact ⟨rfl, by omega⟩
    · obtain ⟨a, b⟩ := tmM_at (z := z) hj k (by omega)
      refine ⟨?_, by omega⟩
      unfold tmM
      split
      · exact a
      · rw [upz_ne (by omega)]
        exact a
theorem or_lt7 {u t : Nat} (hu : u < 128) (ht : t < 7) : u ||| 2 ^ t < 128 := Nat.or_lt_two_pow (n := 7) hu (Nat.pow_lt_pow_right (by decide) ht)
theorem asG_at {far far' : Nat → Nat → Int} {mins mins' M M' : Nat → Int} (hM : ∀ u, u < 128 → M u = M' u) {j : Nat} : ∀ (k i u : Nat) (tr tr' : Nat → Int), (∀ a, i ≤ a → a < i + k → mins a = mins' a) → (∀ a t, a < i + k → t < 7 → far a t = far' a t) → u < 128 → (tr j = tr' j ∨ ∃ a, i ≤ a ∧ a < i + k ∧ (mins a).toNat = j) → asG far mins M k i u tr j = asG far' mins' M' k i u tr' j
  | 0, i, u, tr, tr', hm, hf, hu, hj => by
    rcases hj with hj | ⟨a, h1, h2, -⟩
    · exact hj
    · omega
  | k + 1, i, u, tr, tr', hm, hf, hu, hj => by
    unfold asG
    have el : ltT u (fun t => far i t + M (u ||| 2 ^ t)) (M u) = ltT u (fun t => far' i t + M' (u ||| 2 ^ t)) (M' u) := by
      rw [hM u hu]
      exact ltT_congr (fun t ht => by rw [hf i t (by omega) ht, hM _ (or_lt7 hu ht)])
    rw [← el, ← hm i (by omega) (by omega)]
    have hr := ltT_r (u := u) (g := fun t => far i t + M (u ||| 2 ^ t)) (most := M u)
    generalize ltT u (fun t => far i t + M (u ||| 2 ^ t)) (M u) = w at *
    refine asG_at hM k (i + 1) _ _ _ (fun a h1 h2 => hm a (by omega) (by omega)) (fun a t h1 h2 => hf a t (by omega) h2) (or_lt7 hu (by omega)) ?_
    by_cases e : (mins i).toNat = j
    · refine .inl ?_
      rw [e, upz_eq, upz_eq]
    · rcases hj with hj | ⟨a, h1, h2, h3⟩
      · refine .inl ?_
        rw [upz_ne (by omega), upz_ne (by omega)]
        exact hj
      · refine .inr ⟨a, ?_, by omega, h3⟩
        rcases Nat.lt_or_ge i a with h4 | h4
        · exact h4
        · have : a = i := by omega
          rw [this] at h3
          exact absurd h3 e
theorem tm_pc {n : Nat} (hn : n < 1024) : tmN n 10 = pcN n := by
  have key : ∀ n ∈ List.range 1024, tmN n 10 = pcN n := by decide +kernel
  exact key n (List.mem_range.mpr hn)
/-- how far each throw of an evening goes; what is the most; who gets which trim -/
def eFar (D : Nat → Nat → Int) (no tu : Int) (n : Nat) : Nat → Nat → Int := fun i t => flD5 D no tu (tmM n (fun _ => 0) 10 i) ((t : Int) - 3) 0 200 0
def eTr (far : Nat → Nat → Int) (n : Nat) : Nat → Int := asG far (tmM n (fun _ => 0) 10) (fun u => evW far (tmN n 10) (tmN n 10 - pcN u) u) (tmN n 10) 0 0 (fun _ => 0)
def evOk (s : Int) : Prop := 0 < s ∧ s < 1024 ∧ pcN s.toNat ≤ 7
def eF (F : fS) (n : Nat) : Nat → Nat → Int := eFar F.1 (nosM (nD F.1) (layM F.1 F.2.1.1)) (trn (winM (nD F.1) (layM F.1 F.2.1.1))) n
section FACE
variable {T : Nat → Nat × Nat} {S : Nat → Nat → Int} {c : pm_M × pm_C} {x sA sB : Nat} {k : Int} {F : fS}
/-- a change of the evening's cells alone -/
theorem cR.eve {S' : Nat → Nat → Int} {V : Option (Nat × (Nat → Int))} (h : cR T S x sA sB k F) (e : ∀ a, a ≠ x + 46 → (a < x + 132 ∨ x + 145 ≤ a) → S' a = S a) (e4 : S' (x + 136) = S (x + 136)) (e1 : (V = none ∧ ∀ j, j < 10 → S' (x + 133) j = 0) ∨ ∃ W, V = some W ∧ W.1 < 1024 ∧ (∀ j, j < 10 → S' (x + 133) j = btN W.1 j) ∧ ∀ j, j < 10 → btN W.1 j = 1 → S' (x + 134) j = W.2 j) : cR T S' x sA sB k (F.1, F.2.1, F.2.2.1, F.2.2.2.1, F.2.2.2.2.1, V) := by
  obtain ⟨⟨l10, hs, hk⟩, ⟨a1, a2, a3, a4⟩, ⟨b1, b2, b3⟩, ⟨c1, c2, c3, c4, c5, c6, c7⟩, d1, ⟨e0, e2⟩, f0, -⟩ := h
  have gs : ∀ a, sA ≤ a → a < sA + 8 → S' a = S a := fun a h1 h2 => e a (by omega) (by omega)
  refine ⟨⟨l10, hs, hk⟩, ⟨?_, ?_, a3.eq gs, fun j hj => ?_⟩, ⟨b1.eq (fun a h1 h2 => e a (by omega) (by omega)), b2, b3.eq (fun a h1 h2 => e a (by omega) (by omega))⟩, ⟨?_, ?_, ?_, c4, c5, ?_, c7⟩, ?_, ⟨fun i hi => ?_, ?_⟩, fun j hj => ?_, e1⟩
  · rw [e x (by omega) (by omega)]
    exact a1
  · rw [e x (by omega) (by omega)]
    exact a2
  · rw [gs _ (by omega) (by omega)]
    exact a4 j hj
  · rw [e _ (by omega) (by omega)]
    exact c1
  · rw [e _ (by omega) (by omega)]
    exact c2
  · rw [e _ (by omega) (by omega)]
    exact c3
  · rw [e x (by omega) (by omega)]
    exact c6
  · rw [e x (by omega) (by omega)]
    rcases d1 with d1 | ⟨d1, J, d2, d3, d4⟩
    · exact .inl d1
    · exact .inr ⟨d1, J, d2, d3.eq (fun a h1 h2 => e a (by omega) (by omega)), d4⟩
  · rw [e _ (by omega) (by omega)]
    exact e0 i hi
  · rw [e (x + 55) (by omega) (by omega), e (x + 56) (by omega) (by omega)]
    exact e2
  · rw [e4]
    exact f0 j hj
theorem o_evening {s : Int} (h : cR T S x sA sB k F) (hs : rg s) : opR 6 118 [.ref x, .int (zI s), .retAddr 0] T S c x k (fun r F' =>
    (¬ evOk s ∧ r = .inr iae ∧ F' = F) ∨ (evOk s ∧ r = .inl (evW (eF F s.toNat) (pcN s.toNat) (pcN s.toNat) 0) ∧ F' = (F.1, F.2.1, F.2.2.1, F.2.2.2.1, F.2.2.2.2.1, some (s.toNat, eTr (eF F s.toNat) s.toNat)))) := by
  have l10 := h.1.1
  obtain ⟨t0, tL1, tL3, tL6, tL9, tL17, tL25, tL34, tL40, tL46, tL55, tL132, tL145⟩ := id l10
  have tsh : T (x + 25) = (8, 0) := tL25.1
  have tf : T (x + 46) = (2, 0) := tL46
  have tev : T (x + 132) = (1, 0) := tL132.1
  have hs' := hs
  unfold rg at hs'
  have e3 : (S x 3).toNat = sA := by have := h.2.1.1; omega
  by_cases g : 0 < s ∧ s < 1024
  · obtain ⟨n, rfl⟩ : ∃ n : Nat, s = n := ⟨s.toNat, by omega⟩
    have hn : n < 1024 := by omega
    have kb := c_bitCountN (h := zh T S c) hn
    have hp := pc_r hn
    rw [Int.toNat_natCast]
    by_cases g1 : pcN n ≤ 7
    · obtain ⟨f1, f2, kN, kW, kP, -, -, -, p6, p7, p8⟩ := k_fly (c := c) (mi := 0) (tr := 0) (we := 0) (mo := 0) h (by decide) (by decide) (.inl rfl) (by decide)
      have sI := (layM_I h.dO h.2.2.1.2.1.1).1
      have rN := nosM_r sI
      have rT := trn_range (winM_r sI)
      have hsc := h.2.1.2.2.1
      have hlo := h.1.2.1
      have eE : ∀ mi tr, flE (upS S (x + 46) f1) sA (nosM (nD F.1) (layM F.1 F.2.1.1)) (trn (winM (nD F.1) (layM F.1 F.2.1.1))) mi tr 0 200 = flD5 F.1 (nosM (nD F.1) (layM F.1 F.2.1.1)) (trn (winM (nD F.1) (layM F.1 F.2.1.1))) mi tr 0 200 := fun mi tr => by
        rw [flE_eq (S := S) (fun a h1 h2 => upS_ne (by omega)), h.fl]
      have eq1 : eF F n = eFar F.1 (nosM (nD F.1) (layM F.1 F.2.1.1)) (trn (winM (nD F.1) (layM F.1 F.2.1.1))) n := rfl
      generalize nosM (nD F.1) (layM F.1 F.2.1.1) = no at *
      generalize winM (nD F.1) (layM F.1 F.2.1.1) = wi at *
      have kC := c_choose (T := T) (S := upS S (x + 46) f1) (c := c) (e := x + 132) (f := x + 46) (s := sA) (n := n) (no := no) (tu := trn wi) tL132 tf h.l4 (by omega) (by omega) (by omega) (fun j hj => by rw [upS_ne (by omega)]; exact h.2.2.2.2.2.2.1 j hj) (by rw [upS_eq]; exact p6) (by rw [upS_eq]; exact p7) (by rw [upS_eq]; exact p8) rN rT (hsc.eq (fun a h1 h2 => upS_ne (by omega))) hn (by rw [tm_pc hn]; exact g1)
      obtain ⟨v, S2, kC, far, M, m1, m2, rfl, m4, m5, -, m7, m8⟩ := kC
      have ef : ∀ i t, i < tmN n 10 → t < 7 → far i t = eF F n i t := fun i t hi ht => by
        rw [m1 i t hi ht, eE, tmM_congr (z' := fun _ => 0) 10 i hi, eq1]
        rfl
      have eM : ∀ u, u < 128 → M u = evW (eF F n) (tmN n 10) (tmN n 10 - pcN u) u := fun u hu => by
        rw [m2 u hu]
        exact evW_congr ef _ _ (Nat.sub_le _ _)
      have eV : evW far (tmN n 10) (tmN n 10) 0 = evW (eF F n) (pcN n) (pcN n) 0 := by
        rw [evW_congr ef _ _ (Nat.le_refl _), tm_pc hn]
      rw [eV] at kC
      refine opR_val (S' := S2) (px_ofQ fun Q hQ => ?_) (fun a ha => by rw [m4 a (by omega) (by omega), upS_ne (by omega)]) (h.eve (V := some (n, eTr (eF F n) n)) (fun a h1 h2 => by rw [m4 a h1 (by omega), upS_ne h1]) ?_ (.inr ⟨_, rfl, hn, fun j hj => ?_, fun j hj hb => ?_⟩)) (.inr ⟨⟨by omega, by omega, by rw [Int.toNat_natCast]; exact g1⟩, rfl, rfl⟩)
      · (simp (disch := first | with_reducible assumption | omega | decide | (simp only [ps_low, List.map_cons, List.map_nil, Value.category, List.sum_cons, List.sum_nil]; decide)) only [el_X10_evening_0, el_X10_evening_4, el_X10_evening_5, el_X10_evening_6, el_X10_evening_7, el_X10_evening_10, el_X10_evening_11, el_X10_evening_14, el_X10_evening_17, el_X10_evening_18, el_X10_evening_20, el_X10_evening_23, el_X10_evening_31, el_X10_evening_32, el_X10_evening_35, el_X10_evening_36, el_X10_evening_39, el_X10_evening_40, el_X10_evening_46, el_X10_evening_47, el_X10_evening_56, el_X10_evening_57, el_X10_evening_60, el_X10_evening_61, el_X10_evening_64, el_X10_evening_68, gf_10_11, gf_10_3, gf_10_5, gf_10_9, px_ifp, px_ifn, zh_1, zc_1, zc_2, zc_3, zc_4, zc_5, zc_6, zc_7, zc_8, zc_9, zc_10, zc_11, zc_12, zc_20, zc_21, zc_22, zp_1, zp_2, zp_3, zp_4, zp_5, zp_6, zp_7, zp_8, zp_9, zp_10, zp_11, zp_12, zp_20, zp_21, zp_22, upS_eq, upS_ne, upS_up, upz_eq, upz_ne, upz_up, px_al_aI, px_as_aI, px_as_aZ, px_as_aC, px_ln_aI, Option.toList, List.cons_append, List.nil_append, Int.reduceAdd, Int.reduceSub, Int.reduceMul, ↓reduceIte, Nat.reduceEqDiff, eq_self, Int.reduceEq, Int.reduceLT, Int.reduceLE, Int.reduceNe, Int.reduceNeg, Int.reduceToNat, ne_eq, not_true_eq_false, not_false_eq_true, t0, el_X10_evening_1 (kb ..) _ _, e3, tf, tsh, tev, el_X10_evening_43 (kN ..) _ (zo_8 _) _, el_X10_evening_50 (kW ..) _ (zo_8 _) _, el_X10_evening_53 (kP ..) _ (zo_2 _) _, el_X10_evening_65 (kC ..) _ (zo_1 _) _]; repeat (first | simp (disch := first | omega | decide) only [upz_srt, upy_upz, upz_up, upS_srt, upT_upS, upS_up] | simp (disch := first | with_reducible assumption | omega | decide | (simp only [ps_low, List.map_cons, List.map_nil, Value.category, List.sum_cons, List.sum_nil]; decide)) only [el_X10_evening_0, el_X10_evening_4, el_X10_evening_5, el_X10_evening_6, el_X10_evening_7, el_X10_evening_10, el_X10_evening_11, el_X10_evening_14, el_X10_evening_17, el_X10_evening_18, el_X10_evening_20, el_X10_evening_23, el_X10_evening_31, el_X10_evening_32, el_X10_evening_35, el_X10_evening_36, el_X10_evening_39, el_X10_evening_40, el_X10_evening_46, el_X10_evening_47, el_X10_evening_56, el_X10_evening_57, el_X10_evening_60, el_X10_evening_61, el_X10_evening_64, el_X10_evening_68, gf_10_11, gf_10_3, gf_10_5, gf_10_9, px_ifp, px_ifn, zh_1, zc_1, zc_2, zc_3, zc_4, zc_5, zc_6, zc_7, zc_8, zc_9, zc_10, zc_11, zc_12, zc_20, zc_21, zc_22, zp_1, zp_2, zp_3, zp_4, zp_5, zp_6, zp_7, zp_8, zp_9, zp_10, zp_11, zp_12, zp_20, zp_21, zp_22, upS_eq, upS_ne, upS_up, upz_eq, upz_ne, upz_up, px_al_aI, px_as_aI, px_as_aZ, px_as_aC, px_ln_aI, Option.toList, List.cons_append, List.nil_append, Int.reduceAdd, Int.reduceSub, Int.reduceMul, ↓reduceIte, Nat.reduceEqDiff, eq_self, Int.reduceEq, Int.reduceLT, Int.reduceLE, Int.reduceNe, Int.reduceNeg, Int.reduceToNat, ne_eq, not_true_eq_false, not_false_eq_true, t0, el_X10_evening_1 (kb ..) _ _, e3, tf, tsh, tev, el_X10_evening_43 (kN ..) _ (zo_8 _) _, el_X10_evening_50 (kW ..) _ (zo_8 _) _, el_X10_evening_53 (kP ..) _ (zo_2 _) _, el_X10_evening_65 (kC ..) _ (zo_1 _) _]))
        exact hQ
      · rw [show x + 136 = x + 132 + 4 from rfl, m5, upS_ne (by omega)]
      · rw [show x + 133 = x + 132 + 1 from rfl, m7]
        exact if_pos hj
      · rw [show x + 134 = x + 132 + 2 from rfl, m8]
        obtain ⟨q1, q2⟩ := tmM_at (n := n) (z := upS S (x + 46) f1 (x + 132 + 3)) hb 10 hj
        exact asG_at eM (tmN n 10) 0 0 _ _ (fun a h1 h2 => tmM_congr 10 a (by omega)) (fun a t h1 h2 => ef a t (by omega) h2) (by decide) (.inr ⟨tmN n j, Nat.zero_le _, by omega, by rw [q1]; rfl⟩)
    · refine opR_thr (S' := S) (px_ofQ fun Q hQ => ?_) (fun a _ => rfl) h (.inl ⟨fun z => g1 (by have := z.2.2; rwa [Int.toNat_natCast] at this), rfl, rfl⟩)
      (simp (disch := first | with_reducible assumption | omega | decide | (simp only [ps_low, List.map_cons, List.map_nil, Value.category, List.sum_cons, List.sum_nil]; decide)) only [el_X10_evening_0, el_X10_evening_4, el_X10_evening_5, el_X10_evening_6, el_X10_evening_7, el_X10_evening_10, el_X10_evening_11, el_X10_evening_14, el_X10_evening_17, el_X10_evening_18, el_X10_evening_20, el_X10_evening_23, el_X10_evening_31, el_X10_evening_32, el_X10_evening_35, el_X10_evening_36, el_X10_evening_39, el_X10_evening_40, el_X10_evening_46, el_X10_evening_47, el_X10_evening_56, el_X10_evening_57, el_X10_evening_60, el_X10_evening_61, el_X10_evening_64, el_X10_evening_68, gf_10_11, gf_10_3, gf_10_5, gf_10_9, px_ifp, px_ifn, zh_1, zc_1, zc_2, zc_3, zc_4, zc_5, zc_6, zc_7, zc_8, zc_9, zc_10, zc_11, zc_12, zc_20, zc_21, zc_22, zp_1, zp_2, zp_3, zp_4, zp_5, zp_6, zp_7, zp_8, zp_9, zp_10, zp_11, zp_12, zp_20, zp_21, zp_22, upS_eq, upS_ne, upS_up, upz_eq, upz_ne, upz_up, px_al_aI, px_as_aI, px_as_aZ, px_as_aC, px_ln_aI, Option.toList, List.cons_append, List.nil_append, Int.reduceAdd, Int.reduceSub, Int.reduceMul, ↓reduceIte, Nat.reduceEqDiff, eq_self, Int.reduceEq, Int.reduceLT, Int.reduceLE, Int.reduceNe, Int.reduceNeg, Int.reduceToNat, ne_eq, not_true_eq_false, not_false_eq_true, t0, el_X10_evening_1 (kb ..) _ _, zh_thrown]; repeat (first | simp (disch := first | omega | decide) only [upz_srt, upy_upz, upz_up, upS_srt, upT_upS, upS_up] | simp (disch := first | with_reducible assumption | omega | decide | (simp only [ps_low, List.map_cons, List.map_nil, Value.category, List.sum_cons, List.sum_nil]; decide)) only [el_X10_evening_0, el_X10_evening_4, el_X10_evening_5, el_X10_evening_6, el_X10_evening_7, el_X10_evening_10, el_X10_evening_11, el_X10_evening_14, el_X10_evening_17, el_X10_evening_18, el_X10_evening_20, el_X10_evening_23, el_X10_evening_31, el_X10_evening_32, el_X10_evening_35, el_X10_evening_36, el_X10_evening_39, el_X10_evening_40, el_X10_evening_46, el_X10_evening_47, el_X10_evening_56, el_X10_evening_57, el_X10_evening_60, el_X10_evening_61, el_X10_evening_64, el_X10_evening_68, gf_10_11, gf_10_3, gf_10_5, gf_10_9, px_ifp, px_ifn, zh_1, zc_1, zc_2, zc_3, zc_4, zc_5, zc_6, zc_7, zc_8, zc_9, zc_10, zc_11, zc_12, zc_20, zc_21, zc_22, zp_1, zp_2, zp_3, zp_4, zp_5, zp_6, zp_7, zp_8, zp_9, zp_10, zp_11, zp_12, zp_20, zp_21, zp_22, upS_eq, upS_ne, upS_up, upz_eq, upz_ne, upz_up, px_al_aI, px_as_aI, px_as_aZ, px_as_aC, px_ln_aI, Option.toList, List.cons_append, List.nil_append, Int.reduceAdd, Int.reduceSub, Int.reduceMul, ↓reduceIte, Nat.reduceEqDiff, eq_self, Int.reduceEq, Int.reduceLT, Int.reduceLE, Int.reduceNe, Int.reduceNeg, Int.reduceToNat, ne_eq, not_true_eq_false, not_false_eq_true, t0, el_X10_evening_1 (kb ..) _ _, zh_thrown]))
      exact hQ
  · have kb := c_bitCount (h := zh T S c) (x := zI s)
    generalize bcI (zI s) = y at kb
    refine opR_thr (S' := S) (px_ofQ fun Q hQ => ?_) (fun a _ => rfl) h (.inl ⟨fun z => g ⟨z.1, z.2.1⟩, rfl, rfl⟩)
    repeat' (first | (simp (disch := first | with_reducible assumption | omega | decide | (simp only [ps_low, List.map_cons, List.map_nil, Value.category, List.sum_cons, List.sum_nil]; decide)) only [el_X10_evening_0, el_X10_evening_4, el_X10_evening_5, el_X10_evening_6, el_X10_evening_7, el_X10_evening_10, el_X10_evening_11, el_X10_evening_14, el_X10_evening_17, el_X10_evening_18, el_X10_evening_20, el_X10_evening_23, px_ifp, px_ifn, zh_1, zc_1, zc_2, zc_3, zc_4, zc_5, zc_6, zc_7, zc_8, zc_9, zc_10, zc_11, zc_12, zc_20, zc_21, zc_22, zp_1, zp_2, zp_3, zp_4, zp_5, zp_6, zp_7, zp_8, zp_9, zp_10, zp_11, zp_12, zp_20, zp_21, zp_22, upS_eq, upS_ne, upS_up, upz_eq, upz_ne, upz_up, px_al_aI, px_as_aI, px_as_aZ, px_as_aC, px_ln_aI, Option.toList, List.cons_append, List.nil_append, Int.reduceAdd, Int.reduceSub, Int.reduceMul, ↓reduceIte, Nat.reduceEqDiff, eq_self, Int.reduceEq, Int.reduceLT, Int.reduceLE, Int.reduceNe, Int.reduceNeg, Int.reduceToNat, ne_eq, not_true_eq_false, not_false_eq_true, t0, el_X10_evening_1 (kb ..) _ _, zh_thrown]; repeat (first | simp (disch := first | omega | decide) only [upz_srt, upy_upz, upz_up, upS_srt, upT_upS, upS_up] | simp (disch := first | with_reducible assumption | omega | decide | (simp only [ps_low, List.map_cons, List.map_nil, Value.category, List.sum_cons, List.sum_nil]; decide)) only [el_X10_evening_0, el_X10_evening_4, el_X10_evening_5, el_X10_evening_6, el_X10_evening_7, el_X10_evening_10, el_X10_evening_11, el_X10_evening_14, el_X10_evening_17, el_X10_evening_18, el_X10_evening_20, el_X10_evening_23, px_ifp, px_ifn, zh_1, zc_1, zc_2, zc_3, zc_4, zc_5, zc_6, zc_7, zc_8, zc_9, zc_10, zc_11, zc_12, zc_20, zc_21, zc_22, zp_1, zp_2, zp_3, zp_4, zp_5, zp_6, zp_7, zp_8, zp_9, zp_10, zp_11, zp_12, zp_20, zp_21, zp_22, upS_eq, upS_ne, upS_up, upz_eq, upz_ne, upz_up, px_al_aI, px_as_aI, px_as_aZ, px_as_aC, px_ln_aI, Option.toList, List.cons_append, List.nil_append, Int.reduceAdd, Int.reduceSub, Int.reduceMul, ↓reduceIte, Nat.reduceEqDiff, eq_self, Int.reduceEq, Int.reduceLT, Int.reduceLE, Int.reduceNe, Int.reduceNeg, Int.reduceToNat, ne_eq, not_true_eq_false, not_false_eq_true, t0, el_X10_evening_1 (kb ..) _ _, zh_thrown])) | simp (disch := first | omega | decide) only [upz_srt, upy_upz, upz_up, upS_srt, upT_upS, upS_up] | with_reducible refine px_ite (fun _ => ?_) (fun _ => ?_))
    all_goals first | exact hQ | (exfalso; omega)
end FACE
