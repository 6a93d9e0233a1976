/-! THE MODEL, 12: mean -/
theorem tmod_nat {a b : Nat} : (a : Int).tmod b = ((a % b : Nat) : Int) := by
  rw [Int.tmod_eq_emod_of_nonneg (by omega)]
  rfl
/-- the greatest common divisor is reached in time -/
theorem cdF_gcd : ∀ (j k a b : Nat), b < 2 ^ j → 2 * j ≤ k → cdF k a b = ((Nat.gcd a b : Nat) : Int)
  | 0, k, a, b, hb, hk => by
    have e : b = 0 := by
      rw [Nat.pow_zero] at hb
      omega
    subst e
    rw [Nat.gcd_zero_right]
    cases k with
    | zero => rfl
    | succ k =>
      unfold cdF
      exact if_neg (by omega)
  | j + 1, k, a, b, hb, hk => by
    obtain ⟨k, rfl⟩ : ∃ k', k = k' + 1 + 1 := ⟨k - 2, by omega⟩
    by_cases h0 : b = 0
    · subst h0
      rw [Nat.gcd_zero_right]
      unfold cdF
      exact if_neg (by omega)
    · unfold cdF
      rw [if_pos (by omega), tmod_nat]
      have g1 : Nat.gcd a b = Nat.gcd b (a % b) := by rw [Nat.gcd_comm, Nat.gcd_rec, Nat.gcd_comm]
      rw [g1]
      by_cases h1 : a % b = 0
      · rw [h1, Nat.gcd_zero_right]
        unfold cdF
        exact if_neg (by omega)
      · have hr : a % b < b := Nat.mod_lt _ (by omega)
        unfold cdF
        rw [if_pos (by omega), tmod_nat]
        have g2 : Nat.gcd b (a % b) = Nat.gcd (a % b) (b % (a % b)) := by rw [Nat.gcd_comm, Nat.gcd_rec, Nat.gcd_comm]
        rw [g2]
        refine cdF_gcd j k (a % b) (b % (a % b)) ?_ (by omega)
        rw [Nat.pow_succ] at hb
        generalize a % b = r at *
        have hh : b % r < r := Nat.mod_lt _ (by omega)
        have h2 : 2 * (b % r) ≤ b := by
          have e := Nat.div_add_mod b r
          have q1 : 1 ≤ b / r := by
            rw [Nat.le_div_iff_mul_le (by omega)]
            omega
          have q2 : r * 1 ≤ r * (b / r) := Nat.mul_le_mul_left r q1
          omega
        omega
section MODEL
variable {T : Nat → Nat × Nat} {S : Nat → Nat → Int} {c : pm_M × pm_C} {m : Nat} {k : Int} {F : fS} {kc : String → Int}
theorem m_common {h : pm_H} {a b : Nat} (ha : a ≤ 100000000) (hb : b ≤ 100000000) : px_R 0 195 [.int (zI a), .int (zI b), .retAddr 0, .retAddr 0, .retAddr 0] h (.inl (some (.int (zI ((Nat.gcd a b : Nat) : Int))))) h := by
  refine px_ofQ fun Q hQ => ?_
  have loop : ∀ (n y : Nat), y ≤ n → ∀ (x : Nat) (l4 : Value), x ≤ 100000000 → y ≤ 100000000 → Nat.gcd x y = Nat.gcd a b → px_Ev 0 195 4 [.int (zI a), .int (zI b), .int (zI x), .int (zI y), l4] [] h Q := by
    intro n
    induction n with
    | zero =>
      intro y hy x l4 hx hy2 hg
      have e : y = 0 := by omega
      subst e
      rw [Nat.gcd_zero_right] at hg
      rw [← hg] at hQ
      have ez : ((0 : Nat) : Int) = 0 := rfl
      rw [ez, el_X11_common_4]
      (simp (disch := first | with_reducible assumption | omega | decide | (simp only [ps_low, List.map_cons, List.map_nil, Value.category, List.sum_cons, List.sum_nil]; decide)) only [el_X11_common_5, el_X11_common_8, el_X11_common_9, el_X11_common_10, el_X11_common_11, el_X11_common_13, el_X11_common_14, el_X11_common_15, el_X11_common_17, el_X11_common_18, el_X11_common_21, el_X11_common_22, px_ifp, px_ifn, zh_1, zc_1, zc_2, zc_3, zc_4, zc_5, zc_6, zc_7, zc_8, zc_9, zc_10, zc_11, zc_12, zc_20, zc_21, zc_22, zp_1, zp_2, zp_3, zp_4, zp_5, zp_6, zp_7, zp_8, zp_9, zp_10, zp_11, zp_12, zp_20, zp_21, zp_22, upS_eq, upS_ne, upS_up, upz_eq, upz_ne, upz_up, px_al_aI, px_as_aI, px_as_aZ, px_as_aC, px_ln_aI, Option.toList, List.cons_append, List.nil_append, Int.reduceAdd, Int.reduceSub, Int.reduceMul, ↓reduceIte, Nat.reduceEqDiff, eq_self, Int.reduceEq, Int.reduceLT, Int.reduceLE, Int.reduceNe, Int.reduceNeg, Int.reduceToNat, ne_eq, not_true_eq_false, not_false_eq_true]; repeat (first | simp (disch := first | omega | decide) only [upz_srt, upy_upz, upz_up, upS_srt, upT_upS, upS_up] | simp (disch := first | with_reducible assumption | omega | decide | (simp only [ps_low, List.map_cons, List.map_nil, Value.category, List.sum_cons, List.sum_nil]; decide)) only [el_X11_common_5, el_X11_common_8, el_X11_common_9, el_X11_common_10, el_X11_common_11, el_X11_common_13, el_X11_common_14, el_X11_common_15, el_X11_common_17, el_X11_common_18, el_X11_common_21, el_X11_common_22, px_ifp, px_ifn, zh_1, zc_1, zc_2, zc_3, zc_4, zc_5, zc_6, zc_7, zc_8, zc_9, zc_10, zc_11, zc_12, zc_20, zc_21, zc_22, zp_1, zp_2, zp_3, zp_4, zp_5, zp_6, zp_7, zp_8, zp_9, zp_10, zp_11, zp_12, zp_20, zp_21, zp_22, upS_eq, upS_ne, upS_up, upz_eq, upz_ne, upz_up, px_al_aI, px_as_aI, px_as_aZ, px_as_aC, px_ln_aI, Option.toList, List.cons_append, List.nil_append, Int.reduceAdd, Int.reduceSub, Int.reduceMul, ↓reduceIte, Nat.reduceEqDiff, eq_self, Int.reduceEq, Int.reduceLT, Int.reduceLE, Int.reduceNe, Int.reduceNeg, Int.reduceToNat, ne_eq, not_true_eq_false, not_false_eq_true]))
      exact hQ
    | succ n ih =>
      intro y hy x l4 hx hy2 hg
      by_cases h0 : y = 0
      · exact ih y (by omega) x l4 hx hy2 hg
      · have hyz : ¬ zI (y : Int) = 0 := zI_ne0 (by omega)
        have hm := zI_modN (a := x) (b := y) (by omega)
        have hlt : x % y < y := Nat.mod_lt _ (by omega)
        have nx := ih (x % y) (by omega) y (.int (zI ((x % y : Nat) : Int))) hy2 (by omega) (by rw [← hg, Nat.gcd_comm x y, Nat.gcd_rec y x, Nat.gcd_comm])
        rw [el_X11_common_4]
        (simp (disch := first | with_reducible assumption | omega | decide | (simp only [ps_low, List.map_cons, List.map_nil, Value.category, List.sum_cons, List.sum_nil]; decide)) only [el_X11_common_5, el_X11_common_8, el_X11_common_9, el_X11_common_10, el_X11_common_11, el_X11_common_13, el_X11_common_14, el_X11_common_15, el_X11_common_17, el_X11_common_18, px_ifp, px_ifn, zh_1, zc_1, zc_2, zc_3, zc_4, zc_5, zc_6, zc_7, zc_8, zc_9, zc_10, zc_11, zc_12, zc_20, zc_21, zc_22, zp_1, zp_2, zp_3, zp_4, zp_5, zp_6, zp_7, zp_8, zp_9, zp_10, zp_11, zp_12, zp_20, zp_21, zp_22, upS_eq, upS_ne, upS_up, upz_eq, upz_ne, upz_up, px_al_aI, px_as_aI, px_as_aZ, px_as_aC, px_ln_aI, Option.toList, List.cons_append, List.nil_append, Int.reduceAdd, Int.reduceSub, Int.reduceMul, ↓reduceIte, Nat.reduceEqDiff, eq_self, Int.reduceEq, Int.reduceLT, Int.reduceLE, Int.reduceNe, Int.reduceNeg, Int.reduceToNat, ne_eq, not_true_eq_false, not_false_eq_true, hyz, hm]; repeat (first | simp (disch := first | omega | decide) only [upz_srt, upy_upz, upz_up, upS_srt, upT_upS, upS_up] | simp (disch := first | with_reducible assumption | omega | decide | (simp only [ps_low, List.map_cons, List.map_nil, Value.category, List.sum_cons, List.sum_nil]; decide)) only [el_X11_common_5, el_X11_common_8, el_X11_common_9, el_X11_common_10, el_X11_common_11, el_X11_common_13, el_X11_common_14, el_X11_common_15, el_X11_common_17, el_X11_common_18, px_ifp, px_ifn, zh_1, zc_1, zc_2, zc_3, zc_4, zc_5, zc_6, zc_7, zc_8, zc_9, zc_10, zc_11, zc_12, zc_20, zc_21, zc_22, zp_1, zp_2, zp_3, zp_4, zp_5, zp_6, zp_7, zp_8, zp_9, zp_10, zp_11, zp_12, zp_20, zp_21, zp_22, upS_eq, upS_ne, upS_up, upz_eq, upz_ne, upz_up, px_al_aI, px_as_aI, px_as_aZ, px_as_aC, px_ln_aI, Option.toList, List.cons_append, List.nil_append, Int.reduceAdd, Int.reduceSub, Int.reduceMul, ↓reduceIte, Nat.reduceEqDiff, eq_self, Int.reduceEq, Int.reduceLT, Int.reduceLE, Int.reduceNe, Int.reduceNeg, Int.reduceToNat, ne_eq, not_true_eq_false, not_false_eq_true, hyz, hm]))
        exact nx
  have l0 := loop b b (Nat.le_refl b) a (.retAddr 0) ha hb rfl
  (simp (disch := first | with_reducible assumption | omega | decide | (simp only [ps_low, List.map_cons, List.map_nil, Value.category, List.sum_cons, List.sum_nil]; decide)) only [el_X11_common_0, el_X11_common_1, el_X11_common_2, el_X11_common_3, px_ifp, px_ifn, zh_1, zc_1, zc_2, zc_3, zc_4, zc_5, zc_6, zc_7, zc_8, zc_9, zc_10, zc_11, zc_12, zc_20, zc_21, zc_22, zp_1, zp_2, zp_3, zp_4, zp_5, zp_6, zp_7, zp_8, zp_9, zp_10, zp_11, zp_12, zp_20, zp_21, zp_22, upS_eq, upS_ne, upS_up, upz_eq, upz_ne, upz_up, px_al_aI, px_as_aI, px_as_aZ, px_as_aC, px_ln_aI, Option.toList, List.cons_append, List.nil_append, Int.reduceAdd, Int.reduceSub, Int.reduceMul, ↓reduceIte, Nat.reduceEqDiff, eq_self, Int.reduceEq, Int.reduceLT, Int.reduceLE, Int.reduceNe, Int.reduceNeg, Int.reduceToNat, ne_eq, not_true_eq_false, not_false_eq_true]; repeat (first | simp (disch := first | omega | decide) only [upz_srt, upy_upz, upz_up, upS_srt, upT_upS, upS_up] | simp (disch := first | with_reducible assumption | omega | decide | (simp only [ps_low, List.map_cons, List.map_nil, Value.category, List.sum_cons, List.sum_nil]; decide)) only [el_X11_common_0, el_X11_common_1, el_X11_common_2, el_X11_common_3, px_ifp, px_ifn, zh_1, zc_1, zc_2, zc_3, zc_4, zc_5, zc_6, zc_7, zc_8, zc_9, zc_10, zc_11, zc_12, zc_20, zc_21, zc_22, zp_1, zp_2, zp_3, zp_4, zp_5, zp_6, zp_7, zp_8, zp_9, zp_10, zp_11, zp_12, zp_20, zp_21, zp_22, upS_eq, upS_ne, upS_up, upz_eq, upz_ne, upz_up, px_al_aI, px_as_aI, px_as_aZ, px_as_aC, px_ln_aI, Option.toList, List.cons_append, List.nil_append, Int.reduceAdd, Int.reduceSub, Int.reduceMul, ↓reduceIte, Nat.reduceEqDiff, eq_self, Int.reduceEq, Int.reduceLT, Int.reduceLE, Int.reduceNe, Int.reduceNeg, Int.reduceToNat, ne_eq, not_true_eq_false, not_false_eq_true]))
  exact l0
theorem meanL_r {D : Nat → Nat → Int} (h : ∀ j, j < 10 → 0 ≤ D 5 j ∧ D 5 j ≤ 99) : ∀ n, n ≤ 10 → 0 ≤ meanL D n ∧ meanL D n ≤ 99 * n
  | 0, _ => by unfold meanL; omega
  | n + 1, hn => by
    have ih := meanL_r h n (by omega)
    have hj := h n (by omega)
    unfold meanL
    push_cast
    omega
theorem mul_r {x y : Int} (hx : -5000 ≤ x ∧ x ≤ 5000) (hy : 0 ≤ y ∧ y ≤ 99) : -495000 ≤ x * y ∧ x * y ≤ 495000 := by
  have h1 : x * y ≤ 5000 * y := Int.mul_le_mul_of_nonneg_right hx.2 hy.1
  have h2 : -5000 * y ≤ x * y := Int.mul_le_mul_of_nonneg_right hx.1 hy.1
  omega
theorem meanU_r {D : Nat → Nat → Int} {no tu tr : Int} (hs : scOk D 0) (hno : 0 ≤ no ∧ no ≤ 9) (ht : -3 ≤ tr ∧ tr ≤ 3) : ∀ n : Nat, n ≤ 10 → -(495000 * (n : Int)) ≤ meanU D no tu tr n ∧ meanU D no tu tr n ≤ 495000 * n
  | 0, _ => by unfold meanU; omega
  | n + 1, hn => by
    have ih := meanU_r (tu := tu) hs hno ht n (by omega)
    have hb := flD5_B (tu := tu) (mi := n) (mo := 200) hs hno ht (.inl rfl) (by decide)
    have hj := hs.2.1 n (by omega)
    simp only [Nat.zero_add] at hj
    obtain ⟨q4, q0, -⟩ := hb
    have := mul_r (x := flD5 D no tu n tr 0 200 0) (y := D 5 n) (by omega) hj.2.2.2.2
    unfold meanU
    push_cast
    omega
theorem mean_m {tr w : Int} (h : mR T S m F) (hf : fI k F) (htr : rg tr) (hw : rg w) : mopR 3 196 [.ref m, .int (zI tr), .int (zI w), .retAddr 0, .retAddr 0, .retAddr 0] T S c m kc2 (meanM F tr w) F := by
  obtain ⟨t0, t1, t2, t3, t4, t5, t6, t7, t8, t9, t10, t11, t12, t13, t14, t15, t16, t17, t18, t19, t20, t21, t22, t23, t24, t25, t26, t27, t28, t29, t30, t31, t32, t33, t34, t35⟩ := id h.1
  unfold rg at htr hw
  have h' := h.same hf (mS.field (m := m) (S := S) (k := 1) (x := 0) (by unfold mJ; omega))
  have kf1 := m_fail (T := T) (S := upS S m (upz (S m) 1 0)) (c := c) (k := 1) t0
  have kf2 := m_fail (T := T) (S := upS S m (upz (S m) 1 0)) (c := c) (k := 2) t0
  rw [upS_eq, upz_up, upS_up] at kf1 kf2
  have ki := m_isIn (h := zh T (upS S m (upz (S m) 1 0)) c) (v := tr) (a := -3) (b := 3) htr (by decide) (by decide)
  unfold meanM
  by_cases g : 0 ≤ w ∧ w ≤ 1
  · rw [if_neg (fun z => z g)]
    by_cases g2 : -3 ≤ tr ∧ tr ≤ 3
    · rw [if_neg (fun z => z g2)]
      rw [if_pos g2] at ki
      have hsh := h'.sh hf
      have hI := hf.lay.1
      have hno := nosM_r hI
      have hL := meanL_r (D := F.1) (fun j hj => by have := hf.2.1.2.1 j hj; simp only [Nat.zero_add] at this; exact this.2.2.2.2) 10 (by decide)
      have hU := meanU_r (D := F.1) (no := nosM (nD F.1) (layM F.1 F.2.1.1)) (tu := trn (winM (nD F.1) (layM F.1 F.2.1.1))) (tr := tr) hf.2.1 hno g2 10 (by decide)
      have hUr := fun n (hn : n ≤ 10) => meanU_r (D := F.1) (no := nosM (nD F.1) (layM F.1 F.2.1.1)) (tu := trn (winM (nD F.1) (layM F.1 F.2.1.1))) (tr := tr) hf.2.1 hno g2 n hn
      have hLr := fun n (hn : n ≤ 10) => meanL_r (D := F.1) (fun j hj => by have := hf.2.1.2.1 j hj; simp only [Nat.zero_add] at this; exact this.2.2.2.2) n hn
      have hWr : ∀ j, j < 10 → 0 ≤ F.1 5 j ∧ F.1 5 j ≤ 99 := fun j hj => by have := hf.2.1.2.1 j hj; simp only [Nat.zero_add] at this; exact this.2.2.2.2
      have hFB := fun (mi : Int) => flD5_B (D := F.1) (no := nosM (nD F.1) (layM F.1 F.2.1.1)) (tu := trn (winM (nD F.1) (layM F.1 F.2.1.1))) (mi := mi) (tr := tr) (we := 0) (mo := 200) hf.2.1 hno g2 (.inl rfl) (by decide)
      -- the flights
      have run : ∀ Q : pm_O → pm_H → Prop, (∀ (E : Nat → Int) (l5 : Value), px_Ev 3 196 93 [.ref m, .int (zI tr), .int (zI w), .int (zI (meanU F.1 (nosM (nD F.1) (layM F.1 F.2.1.1)) (trn (winM (nD F.1) (layM F.1 F.2.1.1))) tr 10)), .int (zI (meanL F.1 10)), l5] [] (zh T (upS S m (flS (upz (S m) 1 0) E)) c) Q) → px_Ev 3 196 0 [.ref m, .int (zI tr), .int (zI w), .retAddr 0, .retAddr 0, .retAddr 0] [] (zh T S c) Q := by
        intro Q hQ
        have loop : ∀ (t i : Nat) (E : Nat → Int), i + t = 10 → px_Ev 3 196 44 [.ref m, .int (zI tr), .int (zI w), .int (zI (meanU F.1 (nosM (nD F.1) (layM F.1 F.2.1.1)) (trn (winM (nD F.1) (layM F.1 F.2.1.1))) tr i)), .int (zI (meanL F.1 i)), .int (zI i)] [] (zh T (upS S m (flS (upz (S m) 1 0) E)) c) Q := by
          intro t
          induction t with
          | zero =>
            intro i E hi
            have e : i = 10 := by omega
            subst e
            have fq := hQ E (.int (zI ((10 : Nat) : Int)))
            rw [el_X11_mean_44]
            (simp (disch := first | with_reducible assumption | omega | decide | (simp only [ps_low, List.map_cons, List.map_nil, Value.category, List.sum_cons, List.sum_nil]; decide)) only [el_X11_mean_46, el_X11_mean_48, px_ifp, px_ifn, zh_1, zc_1, zc_2, zc_3, zc_4, zc_5, zc_6, zc_7, zc_8, zc_9, zc_10, zc_11, zc_12, zc_20, zc_21, zc_22, zp_1, zp_2, zp_3, zp_4, zp_5, zp_6, zp_7, zp_8, zp_9, zp_10, zp_11, zp_12, zp_20, zp_21, zp_22, upS_eq, upS_ne, upS_up, upz_eq, upz_ne, upz_up, px_al_aI, px_as_aI, px_as_aZ, px_as_aC, px_ln_aI, Option.toList, List.cons_append, List.nil_append, Int.reduceAdd, Int.reduceSub, Int.reduceMul, ↓reduceIte, Nat.reduceEqDiff, eq_self, Int.reduceEq, Int.reduceLT, Int.reduceLE, Int.reduceNe, Int.reduceNeg, Int.reduceToNat, ne_eq, not_true_eq_false, not_false_eq_true, t0, t1, t2, t3, t4, t5, t6, t7, t8, t9, t10, t11, t12, t13, t14, t15, t16, t17, t18, t19, t20, t21, t22, t23, t24, t25, t26, t27, t28, t29, t30, t31, t32, t33, t34, t35]; repeat (first | simp (disch := first | omega | decide) only [upz_srt, upy_upz, upz_up, upS_srt, upT_upS, upS_up] | simp (disch := first | with_reducible assumption | omega | decide | (simp only [ps_low, List.map_cons, List.map_nil, Value.category, List.sum_cons, List.sum_nil]; decide)) only [el_X11_mean_46, el_X11_mean_48, px_ifp, px_ifn, zh_1, zc_1, zc_2, zc_3, zc_4, zc_5, zc_6, zc_7, zc_8, zc_9, zc_10, zc_11, zc_12, zc_20, zc_21, zc_22, zp_1, zp_2, zp_3, zp_4, zp_5, zp_6, zp_7, zp_8, zp_9, zp_10, zp_11, zp_12, zp_20, zp_21, zp_22, upS_eq, upS_ne, upS_up, upz_eq, upz_ne, upz_up, px_al_aI, px_as_aI, px_as_aZ, px_as_aC, px_ln_aI, Option.toList, List.cons_append, List.nil_append, Int.reduceAdd, Int.reduceSub, Int.reduceMul, ↓reduceIte, Nat.reduceEqDiff, eq_self, Int.reduceEq, Int.reduceLT, Int.reduceLE, Int.reduceNe, Int.reduceNeg, Int.reduceToNat, ne_eq, not_true_eq_false, not_false_eq_true, t0, t1, t2, t3, t4, t5, t6, t7, t8, t9, t10, t11, t12, t13, t14, t15, t16, t17, t18, t19, t20, t21, t22, t23, t24, t25, t26, t27, t28, t29, t30, t31, t32, t33, t34, t35]))
            exact fq
          | succ t ih =>
            intro i E hi
            have hE' := h'.same hf (mS.fl (E := E))
            rw [upS_eq, upS_up] at hE'
            have hsh' := hE'.sh hf
            have kF := m_fly (T := T) (S := upS S m (flS (upz (S m) 1 0) E)) (c := c) (s := 0) (mi := i) (tr := tr) (we := 0) h.1 hE'.2.1 hf.2.1 (by decide) hsh'.1 hsh'.2.1 hsh'.2.2 hE'.2.2.2.2.1 hI (by omega) g2 (.inl rfl)
            have ez : ((0 : Nat) : Int) = 0 := rfl
            rw [upS_up, upS_eq, flS_flS, ez] at kF
            have nx := ih (i + 1) (flD5 F.1 (nosM (nD F.1) (layM F.1 F.2.1.1)) (trn (winM (nD F.1) (layM F.1 F.2.1.1))) i tr 0 200) (by omega)
            unfold meanU meanL at nx
            have hB := hFB i
            generalize hEE : flD5 F.1 (nosM (nD F.1) (layM F.1 F.2.1.1)) (trn (winM (nD F.1) (layM F.1 F.2.1.1))) i tr 0 200 = E2 at *
            rw [Int.mul_comm] at nx
            have x0 : flS (upz (S m) 1 0) E2 36 = E2 0 := flS_in (j := 0) (by decide)
            have w7 : S (m + 7) i = F.1 5 i := (h.2.1.2.1 i (by omega)).2.2.2.2
            rw [el_X11_mean_44]
            (simp (disch := first | with_reducible assumption | omega | decide | (simp only [ps_low, List.map_cons, List.map_nil, Value.category, List.sum_cons, List.sum_nil]; decide)) only [el_X11_mean_46, el_X11_mean_48, el_X11_mean_51, el_X11_mean_52, el_X11_mean_53, el_X11_mean_55, el_X11_mean_56, el_X11_mean_60, el_X11_mean_61, el_X11_mean_62, el_X11_mean_65, el_X11_mean_67, el_X11_mean_68, el_X11_mean_69, el_X11_mean_72, el_X11_mean_73, el_X11_mean_74, el_X11_mean_75, el_X11_mean_77, el_X11_mean_78, el_X11_mean_81, el_X11_mean_83, el_X11_mean_84, el_X11_mean_85, el_X11_mean_87, el_X11_mean_90, gf_11_36, gf_11_7, px_ifp, px_ifn, zh_1, zc_1, zc_2, zc_3, zc_4, zc_5, zc_6, zc_7, zc_8, zc_9, zc_10, zc_11, zc_12, zc_20, zc_21, zc_22, zp_1, zp_2, zp_3, zp_4, zp_5, zp_6, zp_7, zp_8, zp_9, zp_10, zp_11, zp_12, zp_20, zp_21, zp_22, upS_eq, upS_ne, upS_up, upz_eq, upz_ne, upz_up, px_al_aI, px_as_aI, px_as_aZ, px_as_aC, px_ln_aI, Option.toList, List.cons_append, List.nil_append, Int.reduceAdd, Int.reduceSub, Int.reduceMul, ↓reduceIte, Nat.reduceEqDiff, eq_self, Int.reduceEq, Int.reduceLT, Int.reduceLE, Int.reduceNe, Int.reduceNeg, Int.reduceToNat, ne_eq, not_true_eq_false, not_false_eq_true, t0, t1, t2, t3, t4, t5, t6, t7, t8, t9, t10, t11, t12, t13, t14, t15, t16, t17, t18, t19, t20, t21, t22, t23, t24, t25, t26, t27, t28, t29, t30, t31, t32, t33, t34, t35, el_X11_mean_57 (kF ..) _ (zo_12 _) _, x0, w7, Int.toNat_natCast]; repeat (first | simp (disch := first | omega | decide) only [upz_srt, upy_upz, upz_up, upS_srt, upT_upS, upS_up] | simp (disch := first | with_reducible assumption | omega | decide | (simp only [ps_low, List.map_cons, List.map_nil, Value.category, List.sum_cons, List.sum_nil]; decide)) only [el_X11_mean_46, el_X11_mean_48, el_X11_mean_51, el_X11_mean_52, el_X11_mean_53, el_X11_mean_55, el_X11_mean_56, el_X11_mean_60, el_X11_mean_61, el_X11_mean_62, el_X11_mean_65, el_X11_mean_67, el_X11_mean_68, el_X11_mean_69, el_X11_mean_72, el_X11_mean_73, el_X11_mean_74, el_X11_mean_75, el_X11_mean_77, el_X11_mean_78, el_X11_mean_81, el_X11_mean_83, el_X11_mean_84, el_X11_mean_85, el_X11_mean_87, el_X11_mean_90, gf_11_36, gf_11_7, px_ifp, px_ifn, zh_1, zc_1, zc_2, zc_3, zc_4, zc_5, zc_6, zc_7, zc_8, zc_9, zc_10, zc_11, zc_12, zc_20, zc_21, zc_22, zp_1, zp_2, zp_3, zp_4, zp_5, zp_6, zp_7, zp_8, zp_9, zp_10, zp_11, zp_12, zp_20, zp_21, zp_22, upS_eq, upS_ne, upS_up, upz_eq, upz_ne, upz_up, px_al_aI, px_as_aI, px_as_aZ, px_as_aC, px_ln_aI, Option.toList, List.cons_append, List.nil_append, Int.reduceAdd, Int.reduceSub, Int.reduceMul, ↓reduceIte, Nat.reduceEqDiff, eq_self, Int.reduceEq, Int.reduceLT, Int.reduceLE, Int.reduceNe, Int.reduceNeg, Int.reduceToNat, ne_eq, not_true_eq_false, not_false_eq_true, t0, t1, t2, t3, t4, t5, t6, t7, t8, t9, t10, t11, t12, t13, t14, t15, t16, t17, t18, t19, t20, t21, t22, t23, t24, t25, t26, t27, t28, t29, t30, t31, t32, t33, t34, t35, el_X11_mean_57 (kF ..) _ (zo_12 _) _, x0, w7, Int.toNat_natCast]))
            exact nx
        have e0 : flS (upz (S m) 1 0) (fun j => upz (S m) 1 0 (36 + j)) = upz (S m) 1 0 := flS_same (fun j _ => rfl)
        have l0 := loop 10 0 (fun j => upz (S m) 1 0 (36 + j)) (by omega)
        rw [e0] at l0
        have ez : ((0 : Nat) : Int) = 0 := rfl
        have eu : meanU F.1 (nosM (nD F.1) (layM F.1 F.2.1.1)) (trn (winM (nD F.1) (layM F.1 F.2.1.1))) tr 0 = 0 := rfl
        have el : meanL F.1 0 = 0 := rfl
        rw [ez, eu, el] at l0
        (simp (disch := first | with_reducible assumption | omega | decide | (simp only [ps_low, List.map_cons, List.map_nil, Value.category, List.sum_cons, List.sum_nil]; decide)) only [el_X11_mean_0, el_X11_mean_1, el_X11_mean_2, el_X11_mean_5, el_X11_mean_6, el_X11_mean_9, el_X11_mean_10, el_X11_mean_11, el_X11_mean_14, el_X11_mean_15, el_X11_mean_19, el_X11_mean_20, el_X11_mean_21, el_X11_mean_23, el_X11_mean_27, el_X11_mean_30, el_X11_mean_31, el_X11_mean_35, el_X11_mean_36, el_X11_mean_37, el_X11_mean_38, el_X11_mean_39, el_X11_mean_41, el_X11_mean_42, pf_11_1, px_ifp, px_ifn, zh_1, zc_1, zc_2, zc_3, zc_4, zc_5, zc_6, zc_7, zc_8, zc_9, zc_10, zc_11, zc_12, zc_20, zc_21, zc_22, zp_1, zp_2, zp_3, zp_4, zp_5, zp_6, zp_7, zp_8, zp_9, zp_10, zp_11, zp_12, zp_20, zp_21, zp_22, upS_eq, upS_ne, upS_up, upz_eq, upz_ne, upz_up, px_al_aI, px_as_aI, px_as_aZ, px_as_aC, px_ln_aI, Option.toList, List.cons_append, List.nil_append, Int.reduceAdd, Int.reduceSub, Int.reduceMul, ↓reduceIte, Nat.reduceEqDiff, eq_self, Int.reduceEq, Int.reduceLT, Int.reduceLE, Int.reduceNe, Int.reduceNeg, Int.reduceToNat, ne_eq, not_true_eq_false, not_false_eq_true, t0, t1, t2, t3, t4, t5, t6, t7, t8, t9, t10, t11, t12, t13, t14, t15, t16, t17, t18, t19, t20, t21, t22, t23, t24, t25, t26, t27, t28, t29, t30, t31, t32, t33, t34, t35, el_X11_mean_24 (ki ..) _ _]; repeat (first | simp (disch := first | omega | decide) only [upz_srt, upy_upz, upz_up, upS_srt, upT_upS, upS_up] | simp (disch := first | with_reducible assumption | omega | decide | (simp only [ps_low, List.map_cons, List.map_nil, Value.category, List.sum_cons, List.sum_nil]; decide)) only [el_X11_mean_0, el_X11_mean_1, el_X11_mean_2, el_X11_mean_5, el_X11_mean_6, el_X11_mean_9, el_X11_mean_10, el_X11_mean_11, el_X11_mean_14, el_X11_mean_15, el_X11_mean_19, el_X11_mean_20, el_X11_mean_21, el_X11_mean_23, el_X11_mean_27, el_X11_mean_30, el_X11_mean_31, el_X11_mean_35, el_X11_mean_36, el_X11_mean_37, el_X11_mean_38, el_X11_mean_39, el_X11_mean_41, el_X11_mean_42, pf_11_1, px_ifp, px_ifn, zh_1, zc_1, zc_2, zc_3, zc_4, zc_5, zc_6, zc_7, zc_8, zc_9, zc_10, zc_11, zc_12, zc_20, zc_21, zc_22, zp_1, zp_2, zp_3, zp_4, zp_5, zp_6, zp_7, zp_8, zp_9, zp_10, zp_11, zp_12, zp_20, zp_21, zp_22, upS_eq, upS_ne, upS_up, upz_eq, upz_ne, upz_up, px_al_aI, px_as_aI, px_as_aZ, px_as_aC, px_ln_aI, Option.toList, List.cons_append, List.nil_append, Int.reduceAdd, Int.reduceSub, Int.reduceMul, ↓reduceIte, Nat.reduceEqDiff, eq_self, Int.reduceEq, Int.reduceLT, Int.reduceLE, Int.reduceNe, Int.reduceNeg, Int.reduceToNat, ne_eq, not_true_eq_false, not_false_eq_true, t0, t1, t2, t3, t4, t5, t6, t7, t8, t9, t10, t11, t12, t13, t14, t15, t16, t17, t18, t19, t20, t21, t22, t23, t24, t25, t26, t27, t28, t29, t30, t31, t32, t33, t34, t35, el_X11_mean_24 (ki ..) _ _]))
        exact l0
      generalize meanU F.1 (nosM (nD F.1) (layM F.1 F.2.1.1)) (trn (winM (nD F.1) (layM F.1 F.2.1.1))) tr 10 = U at *
      generalize meanL F.1 10 = L at *
      have fin : ∀ (E : Nat → Int), mR T (upS S m (flS (upz (S m) 1 0) E)) m F ∧ (upS S m (flS (upz (S m) 1 0) E)) m 1 = 0 := by
        intro E
        have hE' := h'.same hf (mS.fl (E := E))
        rw [upS_eq, upS_up] at hE'
        exact ⟨hE', by rw [upS_eq, flS_out (by omega), upz_eq]⟩
      -- an end with a value
      have done : ∀ v : Int, (∀ (E : Nat → Int) (l5 : Value) (Q : pm_O → pm_H → Prop), Q (.inl (some (.int (zI v)))) (zh T (upS S m (flS (upz (S m) 1 0) E)) c) → px_Ev 3 196 93 [.ref m, .int (zI tr), .int (zI w), .int (zI U), .int (zI L), l5] [] (zh T (upS S m (flS (upz (S m) 1 0) E)) c) Q) → mopR 3 196 [.ref m, .int (zI tr), .int (zI w), .retAddr 0, .retAddr 0, .retAddr 0] T S c m kc2 (.inl v) F := by
        intro v hv
        obtain ⟨o, hh, hr, E, rfl, rfl⟩ : ∃ o hh, px_R 3 196 [.ref m, .int (zI tr), .int (zI w), .retAddr 0, .retAddr 0, .retAddr 0] (zh T S c) o hh ∧ ∃ E : Nat → Int, o = .inl (some (.int (zI v))) ∧ hh = zh T (upS S m (flS (upz (S m) 1 0) E)) c := by
          refine px_ofEx ?_
          exact run _ (fun E l5 => hv E l5 _ ⟨E, rfl, rfl⟩)
        exact mop_val hr (fun a ha => upS_ne (by omega)) (fin E).1 (fin E).2
      by_cases gL : L < 1
      · rw [if_pos gL]
        have eL : L = 0 := by omega
        refine done w (fun E l5 Q hQ => ?_)
        rw [eL]
        rcases (show w = 0 ∨ w = 1 by omega) with rfl | rfl
        · (simp (disch := first | with_reducible assumption | omega | decide | (simp only [ps_low, List.map_cons, List.map_nil, Value.category, List.sum_cons, List.sum_nil]; decide)) only [el_X11_mean_93, el_X11_mean_95, el_X11_mean_98, el_X11_mean_99, el_X11_mean_102, el_X11_mean_104, el_X11_mean_105, el_X11_mean_111, el_X11_mean_113, el_X11_mean_114, el_X11_mean_117, el_X11_mean_119, el_X11_mean_122, el_X11_mean_123, el_X11_mean_126, el_X11_mean_127, el_X11_mean_129, el_X11_mean_130, el_X11_mean_133, el_X11_mean_135, el_X11_mean_138, el_X11_mean_139, el_X11_mean_142, el_X11_mean_144, el_X11_mean_146, el_X11_mean_147, px_ifp, px_ifn, zh_1, zc_1, zc_2, zc_3, zc_4, zc_5, zc_6, zc_7, zc_8, zc_9, zc_10, zc_11, zc_12, zc_20, zc_21, zc_22, zp_1, zp_2, zp_3, zp_4, zp_5, zp_6, zp_7, zp_8, zp_9, zp_10, zp_11, zp_12, zp_20, zp_21, zp_22, upS_eq, upS_ne, upS_up, upz_eq, upz_ne, upz_up, px_al_aI, px_as_aI, px_as_aZ, px_as_aC, px_ln_aI, Option.toList, List.cons_append, List.nil_append, Int.reduceAdd, Int.reduceSub, Int.reduceMul, ↓reduceIte, Nat.reduceEqDiff, eq_self, Int.reduceEq, Int.reduceLT, Int.reduceLE, Int.reduceNe, Int.reduceNeg, Int.reduceToNat, ne_eq, not_true_eq_false, not_false_eq_true, t0, t1, t2, t3, t4, t5, t6, t7, t8, t9, t10, t11, t12, t13, t14, t15, t16, t17, t18, t19, t20, t21, t22, t23, t24, t25, t26, t27, t28, t29, t30, t31, t32, t33, t34, t35]; repeat (first | simp (disch := first | omega | decide) only [upz_srt, upy_upz, upz_up, upS_srt, upT_upS, upS_up] | simp (disch := first | with_reducible assumption | omega | decide | (simp only [ps_low, List.map_cons, List.map_nil, Value.category, List.sum_cons, List.sum_nil]; decide)) only [el_X11_mean_93, el_X11_mean_95, el_X11_mean_98, el_X11_mean_99, el_X11_mean_102, el_X11_mean_104, el_X11_mean_105, el_X11_mean_111, el_X11_mean_113, el_X11_mean_114, el_X11_mean_117, el_X11_mean_119, el_X11_mean_122, el_X11_mean_123, el_X11_mean_126, el_X11_mean_127, el_X11_mean_129, el_X11_mean_130, el_X11_mean_133, el_X11_mean_135, el_X11_mean_138, el_X11_mean_139, el_X11_mean_142, el_X11_mean_144, el_X11_mean_146, el_X11_mean_147, px_ifp, px_ifn, zh_1, zc_1, zc_2, zc_3, zc_4, zc_5, zc_6, zc_7, zc_8, zc_9, zc_10, zc_11, zc_12, zc_20, zc_21, zc_22, zp_1, zp_2, zp_3, zp_4, zp_5, zp_6, zp_7, zp_8, zp_9, zp_10, zp_11, zp_12, zp_20, zp_21, zp_22, upS_eq, upS_ne, upS_up, upz_eq, upz_ne, upz_up, px_al_aI, px_as_aI, px_as_aZ, px_as_aC, px_ln_aI, Option.toList, List.cons_append, List.nil_append, Int.reduceAdd, Int.reduceSub, Int.reduceMul, ↓reduceIte, Nat.reduceEqDiff, eq_self, Int.reduceEq, Int.reduceLT, Int.reduceLE, Int.reduceNe, Int.reduceNeg, Int.reduceToNat, ne_eq, not_true_eq_false, not_false_eq_true, t0, t1, t2, t3, t4, t5, t6, t7, t8, t9, t10, t11, t12, t13, t14, t15, t16, t17, t18, t19, t20, t21, t22, t23, t24, t25, t26, t27, t28, t29, t30, t31, t32, t33, t34, t35]))
          exact hQ
        · (simp (disch := first | with_reducible assumption | omega | decide | (simp only [ps_low, List.map_cons, List.map_nil, Value.category, List.sum_cons, List.sum_nil]; decide)) only [el_X11_mean_93, el_X11_mean_95, el_X11_mean_98, el_X11_mean_99, el_X11_mean_102, el_X11_mean_104, el_X11_mean_105, el_X11_mean_111, el_X11_mean_113, el_X11_mean_114, el_X11_mean_117, el_X11_mean_119, el_X11_mean_122, el_X11_mean_123, el_X11_mean_126, el_X11_mean_127, el_X11_mean_129, el_X11_mean_130, el_X11_mean_133, el_X11_mean_135, el_X11_mean_138, el_X11_mean_139, el_X11_mean_142, el_X11_mean_144, el_X11_mean_146, el_X11_mean_147, px_ifp, px_ifn, zh_1, zc_1, zc_2, zc_3, zc_4, zc_5, zc_6, zc_7, zc_8, zc_9, zc_10, zc_11, zc_12, zc_20, zc_21, zc_22, zp_1, zp_2, zp_3, zp_4, zp_5, zp_6, zp_7, zp_8, zp_9, zp_10, zp_11, zp_12, zp_20, zp_21, zp_22, upS_eq, upS_ne, upS_up, upz_eq, upz_ne, upz_up, px_al_aI, px_as_aI, px_as_aZ, px_as_aC, px_ln_aI, Option.toList, List.cons_append, List.nil_append, Int.reduceAdd, Int.reduceSub, Int.reduceMul, ↓reduceIte, Nat.reduceEqDiff, eq_self, Int.reduceEq, Int.reduceLT, Int.reduceLE, Int.reduceNe, Int.reduceNeg, Int.reduceToNat, ne_eq, not_true_eq_false, not_false_eq_true, t0, t1, t2, t3, t4, t5, t6, t7, t8, t9, t10, t11, t12, t13, t14, t15, t16, t17, t18, t19, t20, t21, t22, t23, t24, t25, t26, t27, t28, t29, t30, t31, t32, t33, t34, t35]; repeat (first | simp (disch := first | omega | decide) only [upz_srt, upy_upz, upz_up, upS_srt, upT_upS, upS_up] | simp (disch := first | with_reducible assumption | omega | decide | (simp only [ps_low, List.map_cons, List.map_nil, Value.category, List.sum_cons, List.sum_nil]; decide)) only [el_X11_mean_93, el_X11_mean_95, el_X11_mean_98, el_X11_mean_99, el_X11_mean_102, el_X11_mean_104, el_X11_mean_105, el_X11_mean_111, el_X11_mean_113, el_X11_mean_114, el_X11_mean_117, el_X11_mean_119, el_X11_mean_122, el_X11_mean_123, el_X11_mean_126, el_X11_mean_127, el_X11_mean_129, el_X11_mean_130, el_X11_mean_133, el_X11_mean_135, el_X11_mean_138, el_X11_mean_139, el_X11_mean_142, el_X11_mean_144, el_X11_mean_146, el_X11_mean_147, px_ifp, px_ifn, zh_1, zc_1, zc_2, zc_3, zc_4, zc_5, zc_6, zc_7, zc_8, zc_9, zc_10, zc_11, zc_12, zc_20, zc_21, zc_22, zp_1, zp_2, zp_3, zp_4, zp_5, zp_6, zp_7, zp_8, zp_9, zp_10, zp_11, zp_12, zp_20, zp_21, zp_22, upS_eq, upS_ne, upS_up, upz_eq, upz_ne, upz_up, px_al_aI, px_as_aI, px_as_aZ, px_as_aC, px_ln_aI, Option.toList, List.cons_append, List.nil_append, Int.reduceAdd, Int.reduceSub, Int.reduceMul, ↓reduceIte, Nat.reduceEqDiff, eq_self, Int.reduceEq, Int.reduceLT, Int.reduceLE, Int.reduceNe, Int.reduceNeg, Int.reduceToNat, ne_eq, not_true_eq_false, not_false_eq_true, t0, t1, t2, t3, t4, t5, t6, t7, t8, t9, t10, t11, t12, t13, t14, t15, t16, t17, t18, t19, t20, t21, t22, t23, t24, t25, t26, t27, t28, t29, t30, t31, t32, t33, t34, t35]))
          exact hQ
      · rw [if_neg gL]
        obtain ⟨a, ha⟩ : ∃ a : Nat, (a : Int) = ab U := ⟨(ab U).toNat, by unfold ab; split <;> omega⟩
        have haU : (a : Int) = (if 0 ≤ U then U else -U) := ha
        obtain ⟨b, hb⟩ : ∃ b : Nat, (b : Int) = L := ⟨L.toNat, by omega⟩
        have hcd : cdF 50 (ab U) L = ((Nat.gcd b a : Nat) : Int) := by
          rw [← ha, ← hb, Nat.gcd_comm]
          exact cdF_gcd 10 50 a b (by omega) (by decide)
        have hg0 : 0 < Nat.gcd b a := Nat.gcd_pos_of_pos_left _ (by omega)
        have hgle : Nat.gcd b a ≤ b := Nat.gcd_le_left _ (by omega)
        have har : a ≤ 100000000 := by
          have : (a : Int) ≤ 4950000 := by rw [haU]; split <;> omega
          omega
        have kcm := fun (E : Nat → Int) => m_common (h := zh T (upS S m (flS (upz (S m) 1 0) E)) c) (a := b) (b := a) (by omega) har
        rw [hcd, if_neg (by omega)]
        have hgz : ¬ zI ((Nat.gcd b a : Nat) : Int) = 0 := zI_ne0 (by omega)
        have d1 := zI_tdiv (x := U) (y := ((Nat.gcd b a : Nat) : Int)) (by omega)
        have d2 := zI_tdiv (x := L) (y := ((Nat.gcd b a : Nat) : Int)) (by omega)
        refine done _ (fun E l5 Q hQ => ?_)
        have kcm := kcm E
        rw [hb, haU] at kcm
        rcases (show w = 0 ∨ w = 1 by omega) with rfl | rfl
        · simp only [↓reduceIte, Nat.reduceEqDiff, eq_self, Int.reduceEq, Int.reduceLT, Int.reduceLE, Int.reduceNe, Int.reduceNeg, Int.reduceToNat, ne_eq, not_true_eq_false, not_false_eq_true] at hQ
          (simp (disch := first | with_reducible assumption | omega | decide | (simp only [ps_low, List.map_cons, List.map_nil, Value.category, List.sum_cons, List.sum_nil]; decide)) only [el_X11_mean_93, el_X11_mean_95, el_X11_mean_98, el_X11_mean_99, el_X11_mean_102, el_X11_mean_104, el_X11_mean_105, el_X11_mean_111, el_X11_mean_113, el_X11_mean_114, el_X11_mean_117, el_X11_mean_119, el_X11_mean_122, el_X11_mean_123, el_X11_mean_126, el_X11_mean_127, el_X11_mean_129, el_X11_mean_130, el_X11_mean_133, el_X11_mean_135, el_X11_mean_138, el_X11_mean_139, el_X11_mean_142, el_X11_mean_144, el_X11_mean_146, el_X11_mean_147, px_ifp, px_ifn, zh_1, zc_1, zc_2, zc_3, zc_4, zc_5, zc_6, zc_7, zc_8, zc_9, zc_10, zc_11, zc_12, zc_20, zc_21, zc_22, zp_1, zp_2, zp_3, zp_4, zp_5, zp_6, zp_7, zp_8, zp_9, zp_10, zp_11, zp_12, zp_20, zp_21, zp_22, upS_eq, upS_ne, upS_up, upz_eq, upz_ne, upz_up, px_al_aI, px_as_aI, px_as_aZ, px_as_aC, px_ln_aI, Option.toList, List.cons_append, List.nil_append, Int.reduceAdd, Int.reduceSub, Int.reduceMul, ↓reduceIte, Nat.reduceEqDiff, eq_self, Int.reduceEq, Int.reduceLT, Int.reduceLE, Int.reduceNe, Int.reduceNeg, Int.reduceToNat, ne_eq, not_true_eq_false, not_false_eq_true, t0, t1, t2, t3, t4, t5, t6, t7, t8, t9, t10, t11, t12, t13, t14, t15, t16, t17, t18, t19, t20, t21, t22, t23, t24, t25, t26, t27, t28, t29, t30, t31, t32, t33, t34, t35, el_X11_mean_108 (kcm ..) _ _, hgz, d1]; repeat (first | simp (disch := first | omega | decide) only [upz_srt, upy_upz, upz_up, upS_srt, upT_upS, upS_up] | simp (disch := first | with_reducible assumption | omega | decide | (simp only [ps_low, List.map_cons, List.map_nil, Value.category, List.sum_cons, List.sum_nil]; decide)) only [el_X11_mean_93, el_X11_mean_95, el_X11_mean_98, el_X11_mean_99, el_X11_mean_102, el_X11_mean_104, el_X11_mean_105, el_X11_mean_111, el_X11_mean_113, el_X11_mean_114, el_X11_mean_117, el_X11_mean_119, el_X11_mean_122, el_X11_mean_123, el_X11_mean_126, el_X11_mean_127, el_X11_mean_129, el_X11_mean_130, el_X11_mean_133, el_X11_mean_135, el_X11_mean_138, el_X11_mean_139, el_X11_mean_142, el_X11_mean_144, el_X11_mean_146, el_X11_mean_147, px_ifp, px_ifn, zh_1, zc_1, zc_2, zc_3, zc_4, zc_5, zc_6, zc_7, zc_8, zc_9, zc_10, zc_11, zc_12, zc_20, zc_21, zc_22, zp_1, zp_2, zp_3, zp_4, zp_5, zp_6, zp_7, zp_8, zp_9, zp_10, zp_11, zp_12, zp_20, zp_21, zp_22, upS_eq, upS_ne, upS_up, upz_eq, upz_ne, upz_up, px_al_aI, px_as_aI, px_as_aZ, px_as_aC, px_ln_aI, Option.toList, List.cons_append, List.nil_append, Int.reduceAdd, Int.reduceSub, Int.reduceMul, ↓reduceIte, Nat.reduceEqDiff, eq_self, Int.reduceEq, Int.reduceLT, Int.reduceLE, Int.reduceNe, Int.reduceNeg, Int.reduceToNat, ne_eq, not_true_eq_false, not_false_eq_true, t0, t1, t2, t3, t4, t5, t6, t7, t8, t9, t10, t11, t12, t13, t14, t15, t16, t17, t18, t19, t20, t21, t22, t23, t24, t25, t26, t27, t28, t29, t30, t31, t32, t33, t34, t35, el_X11_mean_108 (kcm ..) _ _, hgz, d1]))
          exact hQ
        · simp only [↓reduceIte, Nat.reduceEqDiff, eq_self, Int.reduceEq, Int.reduceLT, Int.reduceLE, Int.reduceNe, Int.reduceNeg, Int.reduceToNat, ne_eq, not_true_eq_false, not_false_eq_true] at hQ
          (simp (disch := first | with_reducible assumption | omega | decide | (simp only [ps_low, List.map_cons, List.map_nil, Value.category, List.sum_cons, List.sum_nil]; decide)) only [el_X11_mean_93, el_X11_mean_95, el_X11_mean_98, el_X11_mean_99, el_X11_mean_102, el_X11_mean_104, el_X11_mean_105, el_X11_mean_111, el_X11_mean_113, el_X11_mean_114, el_X11_mean_117, el_X11_mean_119, el_X11_mean_122, el_X11_mean_123, el_X11_mean_126, el_X11_mean_127, el_X11_mean_129, el_X11_mean_130, el_X11_mean_133, el_X11_mean_135, el_X11_mean_138, el_X11_mean_139, el_X11_mean_142, el_X11_mean_144, el_X11_mean_146, el_X11_mean_147, px_ifp, px_ifn, zh_1, zc_1, zc_2, zc_3, zc_4, zc_5, zc_6, zc_7, zc_8, zc_9, zc_10, zc_11, zc_12, zc_20, zc_21, zc_22, zp_1, zp_2, zp_3, zp_4, zp_5, zp_6, zp_7, zp_8, zp_9, zp_10, zp_11, zp_12, zp_20, zp_21, zp_22, upS_eq, upS_ne, upS_up, upz_eq, upz_ne, upz_up, px_al_aI, px_as_aI, px_as_aZ, px_as_aC, px_ln_aI, Option.toList, List.cons_append, List.nil_append, Int.reduceAdd, Int.reduceSub, Int.reduceMul, ↓reduceIte, Nat.reduceEqDiff, eq_self, Int.reduceEq, Int.reduceLT, Int.reduceLE, Int.reduceNe, Int.reduceNeg, Int.reduceToNat, ne_eq, not_true_eq_false, not_false_eq_true, t0, t1, t2, t3, t4, t5, t6, t7, t8, t9, t10, t11, t12, t13, t14, t15, t16, t17, t18, t19, t20, t21, t22, t23, t24, t25, t26, t27, t28, t29, t30, t31, t32, t33, t34, t35, el_X11_mean_108 (kcm ..) _ _, hgz, d2]; repeat (first | simp (disch := first | omega | decide) only [upz_srt, upy_upz, upz_up, upS_srt, upT_upS, upS_up] | simp (disch := first | with_reducible assumption | omega | decide | (simp only [ps_low, List.map_cons, List.map_nil, Value.category, List.sum_cons, List.sum_nil]; decide)) only [el_X11_mean_93, el_X11_mean_95, el_X11_mean_98, el_X11_mean_99, el_X11_mean_102, el_X11_mean_104, el_X11_mean_105, el_X11_mean_111, el_X11_mean_113, el_X11_mean_114, el_X11_mean_117, el_X11_mean_119, el_X11_mean_122, el_X11_mean_123, el_X11_mean_126, el_X11_mean_127, el_X11_mean_129, el_X11_mean_130, el_X11_mean_133, el_X11_mean_135, el_X11_mean_138, el_X11_mean_139, el_X11_mean_142, el_X11_mean_144, el_X11_mean_146, el_X11_mean_147, px_ifp, px_ifn, zh_1, zc_1, zc_2, zc_3, zc_4, zc_5, zc_6, zc_7, zc_8, zc_9, zc_10, zc_11, zc_12, zc_20, zc_21, zc_22, zp_1, zp_2, zp_3, zp_4, zp_5, zp_6, zp_7, zp_8, zp_9, zp_10, zp_11, zp_12, zp_20, zp_21, zp_22, upS_eq, upS_ne, upS_up, upz_eq, upz_ne, upz_up, px_al_aI, px_as_aI, px_as_aZ, px_as_aC, px_ln_aI, Option.toList, List.cons_append, List.nil_append, Int.reduceAdd, Int.reduceSub, Int.reduceMul, ↓reduceIte, Nat.reduceEqDiff, eq_self, Int.reduceEq, Int.reduceLT, Int.reduceLE, Int.reduceNe, Int.reduceNeg, Int.reduceToNat, ne_eq, not_true_eq_false, not_false_eq_true, t0, t1, t2, t3, t4, t5, t6, t7, t8, t9, t10, t11, t12, t13, t14, t15, t16, t17, t18, t19, t20, t21, t22, t23, t24, t25, t26, t27, t28, t29, t30, t31, t32, t33, t34, t35, el_X11_mean_108 (kcm ..) _ _, hgz, d2]))
          exact hQ
    · rw [if_pos g2]
      rw [if_neg g2] at ki
      refine mop_thr (v := 0) (px_ofQ fun Q hQ => ?_) (fun a ha => upS_ne (by omega)) (h.same hf (.field (k := 1) (x := 2) (by unfold mJ; omega))) (by rw [upS_eq, upz_eq]; decide)
      (simp (disch := first | with_reducible assumption | omega | decide | (simp only [ps_low, List.map_cons, List.map_nil, Value.category, List.sum_cons, List.sum_nil]; decide)) only [el_X11_mean_0, el_X11_mean_1, el_X11_mean_2, el_X11_mean_5, el_X11_mean_6, el_X11_mean_9, el_X11_mean_10, el_X11_mean_11, el_X11_mean_14, el_X11_mean_15, el_X11_mean_19, el_X11_mean_20, el_X11_mean_21, el_X11_mean_23, el_X11_mean_27, el_X11_mean_30, el_X11_mean_31, el_X11_mean_35, pf_11_1, px_ifp, px_ifn, zh_1, zc_1, zc_2, zc_3, zc_4, zc_5, zc_6, zc_7, zc_8, zc_9, zc_10, zc_11, zc_12, zc_20, zc_21, zc_22, zp_1, zp_2, zp_3, zp_4, zp_5, zp_6, zp_7, zp_8, zp_9, zp_10, zp_11, zp_12, zp_20, zp_21, zp_22, upS_eq, upS_ne, upS_up, upz_eq, upz_ne, upz_up, px_al_aI, px_as_aI, px_as_aZ, px_as_aC, px_ln_aI, Option.toList, List.cons_append, List.nil_append, Int.reduceAdd, Int.reduceSub, Int.reduceMul, ↓reduceIte, Nat.reduceEqDiff, eq_self, Int.reduceEq, Int.reduceLT, Int.reduceLE, Int.reduceNe, Int.reduceNeg, Int.reduceToNat, ne_eq, not_true_eq_false, not_false_eq_true, t0, t1, t2, t3, t4, t5, t6, t7, t8, t9, t10, t11, t12, t13, t14, t15, t16, t17, t18, t19, t20, t21, t22, t23, t24, t25, t26, t27, t28, t29, t30, t31, t32, t33, t34, t35, el_X11_mean_24 (ki ..) _ _, el_X11_mean_32 (kf2 ..) _ (zo_12 _) _]; repeat (first | simp (disch := first | omega | decide) only [upz_srt, upy_upz, upz_up, upS_srt, upT_upS, upS_up] | simp (disch := first | with_reducible assumption | omega | decide | (simp only [ps_low, List.map_cons, List.map_nil, Value.category, List.sum_cons, List.sum_nil]; decide)) only [el_X11_mean_0, el_X11_mean_1, el_X11_mean_2, el_X11_mean_5, el_X11_mean_6, el_X11_mean_9, el_X11_mean_10, el_X11_mean_11, el_X11_mean_14, el_X11_mean_15, el_X11_mean_19, el_X11_mean_20, el_X11_mean_21, el_X11_mean_23, el_X11_mean_27, el_X11_mean_30, el_X11_mean_31, el_X11_mean_35, pf_11_1, px_ifp, px_ifn, zh_1, zc_1, zc_2, zc_3, zc_4, zc_5, zc_6, zc_7, zc_8, zc_9, zc_10, zc_11, zc_12, zc_20, zc_21, zc_22, zp_1, zp_2, zp_3, zp_4, zp_5, zp_6, zp_7, zp_8, zp_9, zp_10, zp_11, zp_12, zp_20, zp_21, zp_22, upS_eq, upS_ne, upS_up, upz_eq, upz_ne, upz_up, px_al_aI, px_as_aI, px_as_aZ, px_as_aC, px_ln_aI, Option.toList, List.cons_append, List.nil_append, Int.reduceAdd, Int.reduceSub, Int.reduceMul, ↓reduceIte, Nat.reduceEqDiff, eq_self, Int.reduceEq, Int.reduceLT, Int.reduceLE, Int.reduceNe, Int.reduceNeg, Int.reduceToNat, ne_eq, not_true_eq_false, not_false_eq_true, t0, t1, t2, t3, t4, t5, t6, t7, t8, t9, t10, t11, t12, t13, t14, t15, t16, t17, t18, t19, t20, t21, t22, t23, t24, t25, t26, t27, t28, t29, t30, t31, t32, t33, t34, t35, el_X11_mean_24 (ki ..) _ _, el_X11_mean_32 (kf2 ..) _ (zo_12 _) _]))
      exact hQ
  · rw [if_pos g]
    refine mop_thr (v := 0) (px_ofQ fun Q hQ => ?_) (fun a ha => upS_ne (by omega)) (h.same hf (.field (k := 1) (x := 1) (by unfold mJ; omega))) (by rw [upS_eq, upz_eq]; decide)
    by_cases g1 : w < 0
    · (simp (disch := first | with_reducible assumption | omega | decide | (simp only [ps_low, List.map_cons, List.map_nil, Value.category, List.sum_cons, List.sum_nil]; decide)) only [el_X11_mean_0, el_X11_mean_1, el_X11_mean_2, el_X11_mean_5, el_X11_mean_6, el_X11_mean_9, el_X11_mean_10, el_X11_mean_11, el_X11_mean_14, el_X11_mean_15, el_X11_mean_19, pf_11_1, px_ifp, px_ifn, zh_1, zc_1, zc_2, zc_3, zc_4, zc_5, zc_6, zc_7, zc_8, zc_9, zc_10, zc_11, zc_12, zc_20, zc_21, zc_22, zp_1, zp_2, zp_3, zp_4, zp_5, zp_6, zp_7, zp_8, zp_9, zp_10, zp_11, zp_12, zp_20, zp_21, zp_22, upS_eq, upS_ne, upS_up, upz_eq, upz_ne, upz_up, px_al_aI, px_as_aI, px_as_aZ, px_as_aC, px_ln_aI, Option.toList, List.cons_append, List.nil_append, Int.reduceAdd, Int.reduceSub, Int.reduceMul, ↓reduceIte, Nat.reduceEqDiff, eq_self, Int.reduceEq, Int.reduceLT, Int.reduceLE, Int.reduceNe, Int.reduceNeg, Int.reduceToNat, ne_eq, not_true_eq_false, not_false_eq_true, t0, t1, t2, t3, t4, t5, t6, t7, t8, t9, t10, t11, t12, t13, t14, t15, t16, t17, t18, t19, t20, t21, t22, t23, t24, t25, t26, t27, t28, t29, t30, t31, t32, t33, t34, t35, el_X11_mean_16 (kf1 ..) _ (zo_12 _) _]; repeat (first | simp (disch := first | omega | decide) only [upz_srt, upy_upz, upz_up, upS_srt, upT_upS, upS_up] | simp (disch := first | with_reducible assumption | omega | decide | (simp only [ps_low, List.map_cons, List.map_nil, Value.category, List.sum_cons, List.sum_nil]; decide)) only [el_X11_mean_0, el_X11_mean_1, el_X11_mean_2, el_X11_mean_5, el_X11_mean_6, el_X11_mean_9, el_X11_mean_10, el_X11_mean_11, el_X11_mean_14, el_X11_mean_15, el_X11_mean_19, pf_11_1, px_ifp, px_ifn, zh_1, zc_1, zc_2, zc_3, zc_4, zc_5, zc_6, zc_7, zc_8, zc_9, zc_10, zc_11, zc_12, zc_20, zc_21, zc_22, zp_1, zp_2, zp_3, zp_4, zp_5, zp_6, zp_7, zp_8, zp_9, zp_10, zp_11, zp_12, zp_20, zp_21, zp_22, upS_eq, upS_ne, upS_up, upz_eq, upz_ne, upz_up, px_al_aI, px_as_aI, px_as_aZ, px_as_aC, px_ln_aI, Option.toList, List.cons_append, List.nil_append, Int.reduceAdd, Int.reduceSub, Int.reduceMul, ↓reduceIte, Nat.reduceEqDiff, eq_self, Int.reduceEq, Int.reduceLT, Int.reduceLE, Int.reduceNe, Int.reduceNeg, Int.reduceToNat, ne_eq, not_true_eq_false, not_false_eq_true, t0, t1, t2, t3, t4, t5, t6, t7, t8, t9, t10, t11, t12, t13, t14, t15, t16, t17, t18, t19, t20, t21, t22, t23, t24, t25, t26, t27, t28, t29, t30, t31, t32, t33, t34, t35, el_X11_mean_16 (kf1 ..) _ (zo_12 _) _]))
      exact hQ
    · (simp (disch := first | with_reducible assumption | omega | decide | (simp only [ps_low, List.map_cons, List.map_nil, Value.category, List.sum_cons, List.sum_nil]; decide)) only [el_X11_mean_0, el_X11_mean_1, el_X11_mean_2, el_X11_mean_5, el_X11_mean_6, el_X11_mean_9, el_X11_mean_10, el_X11_mean_11, el_X11_mean_14, el_X11_mean_15, el_X11_mean_19, pf_11_1, px_ifp, px_ifn, zh_1, zc_1, zc_2, zc_3, zc_4, zc_5, zc_6, zc_7, zc_8, zc_9, zc_10, zc_11, zc_12, zc_20, zc_21, zc_22, zp_1, zp_2, zp_3, zp_4, zp_5, zp_6, zp_7, zp_8, zp_9, zp_10, zp_11, zp_12, zp_20, zp_21, zp_22, upS_eq, upS_ne, upS_up, upz_eq, upz_ne, upz_up, px_al_aI, px_as_aI, px_as_aZ, px_as_aC, px_ln_aI, Option.toList, List.cons_append, List.nil_append, Int.reduceAdd, Int.reduceSub, Int.reduceMul, ↓reduceIte, Nat.reduceEqDiff, eq_self, Int.reduceEq, Int.reduceLT, Int.reduceLE, Int.reduceNe, Int.reduceNeg, Int.reduceToNat, ne_eq, not_true_eq_false, not_false_eq_true, t0, t1, t2, t3, t4, t5, t6, t7, t8, t9, t10, t11, t12, t13, t14, t15, t16, t17, t18, t19, t20, t21, t22, t23, t24, t25, t26, t27, t28, t29, t30, t31, t32, t33, t34, t35, el_X11_mean_16 (kf1 ..) _ (zo_12 _) _]; repeat (first | simp (disch := first | omega | decide) only [upz_srt, upy_upz, upz_up, upS_srt, upT_upS, upS_up] | simp (disch := first | with_reducible assumption | omega | decide | (simp only [ps_low, List.map_cons, List.map_nil, Value.category, List.sum_cons, List.sum_nil]; decide)) only [el_X11_mean_0, el_X11_mean_1, el_X11_mean_2, el_X11_mean_5, el_X11_mean_6, el_X11_mean_9, el_X11_mean_10, el_X11_mean_11, el_X11_mean_14, el_X11_mean_15, el_X11_mean_19, pf_11_1, px_ifp, px_ifn, zh_1, zc_1, zc_2, zc_3, zc_4, zc_5, zc_6, zc_7, zc_8, zc_9, zc_10, zc_11, zc_12, zc_20, zc_21, zc_22, zp_1, zp_2, zp_3, zp_4, zp_5, zp_6, zp_7, zp_8, zp_9, zp_10, zp_11, zp_12, zp_20, zp_21, zp_22, upS_eq, upS_ne, upS_up, upz_eq, upz_ne, upz_up, px_al_aI, px_as_aI, px_as_aZ, px_as_aC, px_ln_aI, Option.toList, List.cons_append, List.nil_append, Int.reduceAdd, Int.reduceSub, Int.reduceMul, ↓reduceIte, Nat.reduceEqDiff, eq_self, Int.reduceEq, Int.reduceLT, Int.reduceLE, Int.reduceNe, Int.reduceNeg, Int.reduceToNat, ne_eq, not_true_eq_false, not_false_eq_true, t0, t1, t2, t3, t4, t5, t6, t7, t8, t9, t10, t11, t12, t13, t14, t15, t16, t17, t18, t19, t20, t21, t22, t23, t24, t25, t26, t27, t28, t29, t30, t31, t32, t33, t34, t35, el_X11_mean_16 (kf1 ..) _ (zo_12 _) _]))
      exact hQ
end MODEL
