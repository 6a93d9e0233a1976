/-! WHAT A SHEET ANSWERS, in numbers -/
def isum (g : Nat → Int) : Nat → Int
  | 0 => 0
  | b + 1 => isum g b + g b
def dsm (g : Nat → Nat → Int) (b : Nat) : Nat → Int
  | 0 => 0
  | a + 1 => dsm g b a + isum (g a) b
theorem isum_congr {g h : Nat → Int} : ∀ b : Nat, (∀ j, j < b → g j = h j) → isum g b = isum h b
  | 0, _ => rfl
  | b + 1, e => by
    unfold isum
    rw [isum_congr b (fun j hj => e j (by omega)), e b (by omega)]
theorem dsm_congr {g h : Nat → Nat → Int} {b : Nat} : ∀ a : Nat, (∀ i j, i < a → j < b → g i j = h i j) → dsm g b a = dsm h b a
  | 0, _ => rfl
  | a + 1, e => by
    unfold dsm
    rw [dsm_congr a (fun i j hi hj => e i j (by omega) hj), isum_congr b (fun j hj => e a j (by omega) hj)]
theorem isum_add {g h : Nat → Int} : ∀ b : Nat, isum (fun j => g j + h j) b = isum g b + isum h b
  | 0 => rfl
  | b + 1 => by
    unfold isum
    rw [isum_add b]
    omega
theorem dsm_add {g h : Nat → Nat → Int} {b : Nat} : ∀ a : Nat, dsm (fun i j => g i j + h i j) b a = dsm g b a + dsm h b a
  | 0 => rfl
  | a + 1 => by
    unfold dsm
    rw [dsm_add a, isum_add]
    omega
theorem isum_0 : ∀ b : Nat, isum (fun _ => 0) b = 0
  | 0 => rfl
  | b + 1 => by
    unfold isum
    rw [isum_0 b]
    rfl
theorem dsm_0 {b : Nat} : ∀ a : Nat, dsm (fun _ _ => 0) b a = 0
  | 0 => rfl
  | a + 1 => by
    unfold dsm
    rw [dsm_0 a, isum_0]
    rfl
theorem isum_one {k : Nat} {x : Int} : ∀ b : Nat, k < b → isum (fun j => if j = k then x else 0) b = x
  | 0, h => absurd h (Nat.not_lt_zero k)
  | b + 1, h => by
    unfold isum
    by_cases e : k = b
    · subst e
      rw [isum_congr (h := fun _ => 0) k (fun j hj => if_neg (by omega)), isum_0, if_pos rfl]
      omega
    · rw [isum_one b (by omega), if_neg (by omega)]
      omega
theorem dsm_one {k l b : Nat} {x : Int} (hl : l < b) : ∀ a : Nat, k < a → dsm (fun i j => if i = k ∧ j = l then x else 0) b a = x
  | 0, h => absurd h (Nat.not_lt_zero k)
  | a + 1, h => by
    unfold dsm
    by_cases e : k = a
    · subst e
      rw [dsm_congr (h := fun _ _ => 0) k (fun i j hi hj => if_neg (by omega)), dsm_0, isum_congr (h := fun j => if j = l then x else 0) b (fun j hj => by simp), isum_one b hl]
      omega
    · rw [dsm_one hl a (by omega), isum_congr (h := fun _ => 0) b (fun j hj => if_neg (by omega)), isum_0]
      omega
theorem dsm_cnt {X Y : Nat → Int} {W H : Nat} {h : Nat → Nat → Int} : ∀ n : Nat, (∀ c, c < n → (0 ≤ X c ∧ X c < W) ∧ 0 ≤ Y c ∧ Y c < H) → dsm (fun y x => cnt X Y x y n * h y x) W H = isum (fun c => h (Y c).toNat (X c).toNat) n
  | 0, _ => by
    unfold cnt isum
    rw [dsm_congr (h := fun _ _ => 0) H (fun i j _ _ => Int.zero_mul _), dsm_0]
  | n + 1, hr => by
    have hn := hr n (by omega)
    unfold isum
    rw [← dsm_cnt n (fun c hc => hr c (by omega))]
    have e : dsm (fun y x => cnt X Y x y (n + 1) * h y x) W H = dsm (fun y x => cnt X Y x y n * h y x + (if y = (Y n).toNat ∧ x = (X n).toNat then h (Y n).toNat (X n).toNat else 0)) W H := by
      refine dsm_congr H (fun y x hy hx => ?_)
      show (cnt X Y x y n + if X n = x ∧ Y n = y then 1 else 0) * h y x = _
      by_cases g : X n = x ∧ Y n = y
      · have e1 : y = (Y n).toNat := by omega
        have e2 : x = (X n).toNat := by omega
        rw [if_pos g, if_pos ⟨e1, e2⟩, Int.add_mul, Int.one_mul, ← e1, ← e2]
      · rw [if_neg g, if_neg (fun z => g (by omega)), Int.add_zero, Int.add_zero]
    rw [e, dsm_add, dsm_one (by omega) H (by omega)]
theorem cnt_swap {X Y : Nat → Int} {x y : Int} : ∀ n : Nat, cnt X Y x y n = cnt Y X y x n
  | 0 => rfl
  | n + 1 => by
    unfold cnt
    rw [cnt_swap n]
    congr 1
    by_cases g : X n = x ∧ Y n = y
    · rw [if_pos g, if_pos ⟨g.2, g.1⟩]
    · rw [if_neg g, if_neg (fun z => g ⟨z.2, z.1⟩)]
theorem rowS_sum {f : Nat → Int} {y : Nat} : ∀ W : Nat, rowS f y W = isum (fun x => wAt f x y * y) W
  | 0 => rfl
  | W + 1 => by
    unfold rowS isum
    rw [rowS_sum W]
theorem nosS_sum {f : Nat → Int} {W : Nat} : ∀ H : Nat, nosS f W H = dsm (fun y x => wAt f x y * y) W H
  | 0 => rfl
  | H + 1 => by
    unfold nosS dsm
    rw [nosS_sum H, rowS_sum]
theorem winC_sum {f : Nat → Int} {s : Int} {x : Nat} : ∀ H : Nat, winC f s x H = isum (fun y => s * wAt f x y) H
  | 0 => rfl
  | H + 1 => by
    unfold winC isum
    rw [winC_sum H]
theorem winS_sum {f : Nat → Int} {W H : Nat} : ∀ k : Nat, winS f W H k = dsm (fun x y => cmpI (2 * x + 1) W * wAt f x y) H k
  | 0 => rfl
  | k + 1 => by
    unfold winS dsm
    rw [winS_sum k, winC_sum]
/-- NOSINESS and WINGS of what is folded -/
def nosM (n : Nat) (M : sM) : Int := if M.1 3 = 1 then 0 else 9 - 9 * isum (M.2 3) n / ((n : Int) * (M.1 3 - 1))
def winM (n : Nat) (M : sM) : Int := isum (fun c => cmpI (2 * M.2 2 c + 1) (M.1 2)) n
theorem isum_r {g : Nat → Int} {a b : Int} : ∀ n : Nat, (∀ c, c < n → a ≤ g c ∧ g c ≤ b) → a * n ≤ isum g n ∧ isum g n ≤ b * n
  | 0, _ => by
    unfold isum
    omega
  | n + 1, h => by
    have ih := isum_r n (fun c hc => h c (by omega))
    have hn := h n (by omega)
    unfold isum
    have e1 : a * ((n + 1 : Nat) : Int) = a * n + a := by
      push_cast
      rw [Int.mul_add, Int.mul_one]
    have e2 : b * ((n + 1 : Nat) : Int) = b * n + b := by
      push_cast
      rw [Int.mul_add, Int.mul_one]
    omega
theorem nosM_r {w n : Nat} {M : sM} (hI : shI w n M) : 0 ≤ nosM n M ∧ nosM n M ≤ 9 := by
  obtain ⟨⟨⟨w1, w8, hw⟩, ⟨hh1, hh8, hn, n1, n64⟩, ⟨c1, c8⟩, ⟨l1, l8⟩, f0, f14⟩, hc0, -⟩ := id hI
  unfold nosM
  split
  · omega
  · have hs := isum_r (g := M.2 3) (a := 0) (b := M.1 3 - 1) n (fun c hc => by have := hc0 c hc; omega)
    have hd : 0 < (n : Int) * (M.1 3 - 1) := Int.mul_pos (by omega) (by omega)
    rw [Int.mul_comm (M.1 3 - 1) (n : Int)] at hs
    generalize (n : Int) * (M.1 3 - 1) = D at *
    have h1 : 0 ≤ 9 * isum (M.2 3) n / D := Int.ediv_nonneg (by omega) (by omega)
    have h2 : 9 * isum (M.2 3) n / D ≤ 9 := by
      apply Int.ediv_le_of_le_mul (by omega)
      omega
    omega
theorem winM_r {w n : Nat} {M : sM} (hI : shI w n M) : -64 ≤ winM n M ∧ winM n M ≤ 64 := by
  obtain ⟨⟨⟨w1, w8, hw⟩, ⟨hh1, hh8, hn, n1, n64⟩, ⟨c1, c8⟩, ⟨l1, l8⟩, f0, f14⟩, hc0, -⟩ := id hI
  have := isum_r (g := fun c => cmpI (2 * M.2 2 c + 1) (M.1 2)) (a := -1) (b := 1) n (fun c hc => by
    unfold cmpI
    split
    · omega
    · split <;> omega)
  unfold winM
  omega
theorem s_nosiness {T : Nat → Nat × Nat} {S : Nat → Nat → Int} {c : pm_M × pm_C} {q w n : Nat} {M : sM} (hq : ly7 T q) (hR : shR S q n M) (hI : shI w n M) :
    px_R 1 74 [.ref q, .retAddr 0, .retAddr 0, .retAddr 0, .retAddr 0] (zh T S c) (.inl (some (.int (zI (nosM n M))))) (zh T S c) := by
  obtain ⟨⟨⟨w1, w8, hw⟩, ⟨hh1, hh8, hn, n1, n64⟩, ⟨c1, c8⟩, ⟨l1, l8⟩, f0, f14⟩, hc0, -⟩ := id hI
  obtain ⟨W, hW⟩ : ∃ W : Nat, (W : Int) = M.1 2 := ⟨(M.1 2).toNat, by omega⟩
  obtain ⟨H, hH⟩ : ∃ H : Nat, (H : Int) = M.1 3 := ⟨(M.1 3).toNat, by omega⟩
  have g2 := hR.1 2 (by decide)
  have g3 := hR.1 3 (by decide)
  have e : nosS (S (q + 7)) W H = isum (M.2 3) n := by
    rw [nosS_sum, dsm_congr (h := fun y x => cnt (M.2 2) (M.2 3) x y n * (y : Int)) H (fun y x hy hx => by rw [wAt_cnt hR (by omega) (by omega)]), dsm_cnt n (fun c hc => by have := hc0 c hc; omega)]
    exact isum_congr n (fun c hc => by have := hc0 c hc; omega)
  have hs := isum_r (g := M.2 3) (a := 0) (b := M.1 3 - 1) n (fun c hc => by have := hc0 c hc; omega)
  have hd : (n : Int) * (M.1 3 - 1) ≤ 64 * 7 := Int.mul_le_mul (by omega) (by omega) (by omega) (by omega)
  rw [Int.mul_comm (M.1 3 - 1) (n : Int)] at hs
  have h := c_nosiness (W := W) (H := H) (sh_zh (S := S) (c := c) hq) (hR.ok hI) (by rw [g2]; exact hW) (by rw [g3]; exact hH) (by rw [e]; omega) (by rw [g3]; omega)
  rw [e, g3] at h
  have e2 : (if (n : Int) * (M.1 3 - 1) < 1 then 0 else 9 - 9 * isum (M.2 3) n / ((n : Int) * (M.1 3 - 1))) = nosM n M := by
    unfold nosM
    by_cases g : M.1 3 = 1
    · rw [if_pos g, if_pos (by rw [g]; omega)]
    · have : 0 < (n : Int) * (M.1 3 - 1) := Int.mul_pos (by omega) (by omega)
      rw [if_neg g, if_neg (by omega)]
  rw [e2] at h
  exact h
theorem s_wings {T : Nat → Nat × Nat} {S : Nat → Nat → Int} {c : pm_M × pm_C} {q w n : Nat} {M : sM} (hq : ly7 T q) (hR : shR S q n M) (hI : shI w n M) :
    px_R 1 75 [.ref q, .retAddr 0, .retAddr 0, .retAddr 0, .retAddr 0] (zh T S c) (.inl (some (.int (zI (winM n M))))) (zh T S c) := by
  obtain ⟨⟨⟨w1, w8, hw⟩, ⟨hh1, hh8, hn, n1, n64⟩, ⟨c1, c8⟩, ⟨l1, l8⟩, f0, f14⟩, hc0, -⟩ := id hI
  obtain ⟨W, hW⟩ : ∃ W : Nat, (W : Int) = M.1 2 := ⟨(M.1 2).toNat, by omega⟩
  obtain ⟨H, hH⟩ : ∃ H : Nat, (H : Int) = M.1 3 := ⟨(M.1 3).toNat, by omega⟩
  have g2 := hR.1 2 (by decide)
  have g3 := hR.1 3 (by decide)
  have e : winS (S (q + 7)) W H W = winM n M := by
    rw [winS_sum, dsm_congr (h := fun x y => cnt (M.2 3) (M.2 2) y x n * cmpI (2 * x + 1) W) W (fun x y hx hy => by rw [wAt_cnt hR (by omega) (by omega), Int.mul_comm, cnt_swap]), dsm_cnt (X := M.2 3) (Y := M.2 2) (h := fun x y => cmpI (2 * x + 1) W) n (fun c hc => by have := hc0 c hc; omega)]
    refine isum_congr n (fun c hc => ?_)
    have := hc0 c hc
    rw [← hW, show (((M.2 2 c).toNat : Nat) : Int) = M.2 2 c by omega]
  have h := c_wings (W := W) (H := H) (sh_zh (S := S) (c := c) hq) (hR.ok hI) (by rw [g2]; exact hW) (by rw [g3]; exact hH)
  rw [e] at h
  exact h
theorem s_weightAt {T : Nat → Nat × Nat} {S : Nat → Nat → Int} {c : pm_M × pm_C} {q n : Nat} {M : sM} {x y : Int} (hq : ly7 T q) (hR : shR S q n M) (hx : 0 ≤ x ∧ x < 8) (hy : 0 ≤ y ∧ y < 8) :
    px_R 0 70 [.ref q, .int (zI x), .int (zI y), .retAddr 0] (zh T S c) (.inl (some (.int (zI (cnt (M.2 2) (M.2 3) x y n))))) (zh T S c) := by
  have h := c_weightAt (x := x) (y := y) (sh_zh (S := S) (c := c) hq) (by omega) (by omega)
  have e := wAt_cnt hR hx hy
  unfold wAt at e
  rw [e] at h
  exact h
theorem s_hasPlace {T : Nat → Nat × Nat} {S : Nat → Nat → Int} {c : pm_M × pm_C} {q w n : Nat} {M : sM} {x y : Int} (hq : ly7 T q) (hR : shR S q n M) (hI : shI w n M) (hx : -2147483648 ≤ x ∧ x ≤ 2147483647) (hy : -2147483648 ≤ y ∧ y ≤ 2147483647) :
    px_R 0 69 [.ref q, .int (zI x), .int (zI y)] (zh T S c) (.inl (some (.int (zI (if 0 ≤ x ∧ x < M.1 2 ∧ 0 ≤ y ∧ y < M.1 3 then 1 else 0))))) (zh T S c) := by
  have o := hR.ok hI
  have h := c_hasPlace (x := x) (y := y) (sh_zh (S := S) (c := c) hq) o.2.2.1 o.2.2.2.1 hx hy
  rw [hR.1 2 (by decide), hR.1 3 (by decide)] at h
  exact h
theorem s_cells {T : Nat → Nat × Nat} {S : Nat → Nat → Int} {c : pm_M × pm_C} {q w n : Nat} {M : sM} (hq : ly7 T q) (hR : shR S q n M) (hI : shI w n M) : px_R 0 62 [.ref q] (zh T S c) (.inl (some (.int (zI n)))) (zh T S c) := c_cells (sh_zh hq) (hR.ok hI)
theorem cAt_congr {X Y L X' Y' L' : Nat → Int} {x y i : Int} : ∀ (t c : Nat), (∀ j, c ≤ j → j < c + t → X j = X' j ∧ Y j = Y' j ∧ L j = L' j) → cAt X Y L x y i t c = cAt X' Y' L' x y i t c
  | 0, _, _ => rfl
  | t + 1, c, h => by
    unfold cAt
    have := h c (Nat.le_refl _) (by omega)
    rw [this.1, this.2.1, this.2.2, cAt_congr t (c + 1) (fun j h1 h2 => h j (by omega) (by omega))]
theorem s_cellAt {T : Nat → Nat × Nat} {S : Nat → Nat → Int} {c : pm_M × pm_C} {q w n : Nat} {M : sM} {x y i : Int} (hq : ly7 T q) (hR : shR S q n M) (hI : shI w n M) (hx : 0 ≤ x ∧ x < 8) (hy : 0 ≤ y ∧ y < 8) (hi : -2147483648 ≤ i ∧ i ≤ 2147483647) :
    px_R 1 71 [.ref q, .int (zI x), .int (zI y), .int (zI i), .retAddr 0, .retAddr 0] (zh T S c) (.inl (some (.int (zI (cAt (M.2 2) (M.2 3) (M.2 4) x y i n 0))))) (zh T S c) := by
  obtain ⟨t0, t1, t2, t3, t4, t5, t6, t7, t8⟩ := id hq
  obtain ⟨⟨⟨w1, w8, hw⟩, ⟨hh1, hh8, hn, n1, n64⟩, ⟨c1, c8⟩, ⟨l1, l8⟩, f0, f14⟩, hc0, -⟩ := id hI
  have hC := s_cells (T := T) (S := S) (c := c) hq hR hI
  refine px_ofQ fun Q hQ => ?_
  have loop : ∀ t c' : Nat, c' + t = n → Q (.inl (some (.int (zI (cAt (M.2 2) (M.2 3) (M.2 4) x y i t c'))))) (zh T S c) →
      px_Ev 1 71 9 [.ref q, .int (zI x), .int (zI y), .int (zI i), .int (zI n), .int (zI c')] [] (zh T S c) Q := by
    intro t
    induction t with
    | zero =>
      intro c' hc k
      rw [el_X7_cellAt_9]; repeat' (first | (simp (disch := first | with_reducible assumption | omega | decide | (simp only [ps_low, List.map_cons, List.map_nil, Value.category, List.sum_cons, List.sum_nil]; decide)) only [el_X7_cellAt_0, el_X7_cellAt_4, el_X7_cellAt_6, el_X7_cellAt_7, el_X7_cellAt_11, el_X7_cellAt_13, el_X7_cellAt_16, el_X7_cellAt_17, el_X7_cellAt_20, el_X7_cellAt_22, el_X7_cellAt_23, el_X7_cellAt_24, el_X7_cellAt_27, el_X7_cellAt_28, el_X7_cellAt_31, el_X7_cellAt_33, el_X7_cellAt_34, el_X7_cellAt_35, el_X7_cellAt_38, el_X7_cellAt_39, el_X7_cellAt_42, el_X7_cellAt_44, el_X7_cellAt_45, el_X7_cellAt_46, el_X7_cellAt_49, el_X7_cellAt_51, el_X7_cellAt_52, el_X7_cellAt_55, el_X7_cellAt_58, el_X7_cellAt_59, gf_7_6, gf_7_7, gf_7_8, px_ifp, px_ifn, zh_1, zc_1, zc_2, zc_3, zc_4, zc_5, zc_6, zc_7, zc_8, zc_9, zc_10, zc_11, zc_12, zc_20, zc_21, zc_22, zp_1, zp_2, zp_3, zp_4, zp_5, zp_6, zp_7, zp_8, zp_9, zp_10, zp_11, zp_12, zp_20, zp_21, zp_22, upS_eq, upS_ne, upS_up, upz_eq, upz_ne, upz_up, px_al_aI, px_as_aI, px_as_aZ, px_as_aC, px_ln_aI, Option.toList, List.cons_append, List.nil_append, Int.reduceAdd, Int.reduceSub, Int.reduceMul, ↓reduceIte, Nat.reduceEqDiff, eq_self, Int.reduceEq, Int.reduceLT, Int.reduceLE, Int.reduceNe, Int.reduceNeg, Int.reduceToNat, ne_eq, not_true_eq_false, not_false_eq_true, t0, t1, t2, t3, t4, t5, t6, t7, t8]; repeat (first | simp (disch := first | omega | decide) only [upz_srt, upy_upz, upz_up, upS_srt, upT_upS, upS_up] | simp (disch := first | with_reducible assumption | omega | decide | (simp only [ps_low, List.map_cons, List.map_nil, Value.category, List.sum_cons, List.sum_nil]; decide)) only [el_X7_cellAt_0, el_X7_cellAt_4, el_X7_cellAt_6, el_X7_cellAt_7, el_X7_cellAt_11, el_X7_cellAt_13, el_X7_cellAt_16, el_X7_cellAt_17, el_X7_cellAt_20, el_X7_cellAt_22, el_X7_cellAt_23, el_X7_cellAt_24, el_X7_cellAt_27, el_X7_cellAt_28, el_X7_cellAt_31, el_X7_cellAt_33, el_X7_cellAt_34, el_X7_cellAt_35, el_X7_cellAt_38, el_X7_cellAt_39, el_X7_cellAt_42, el_X7_cellAt_44, el_X7_cellAt_45, el_X7_cellAt_46, el_X7_cellAt_49, el_X7_cellAt_51, el_X7_cellAt_52, el_X7_cellAt_55, el_X7_cellAt_58, el_X7_cellAt_59, gf_7_6, gf_7_7, gf_7_8, px_ifp, px_ifn, zh_1, zc_1, zc_2, zc_3, zc_4, zc_5, zc_6, zc_7, zc_8, zc_9, zc_10, zc_11, zc_12, zc_20, zc_21, zc_22, zp_1, zp_2, zp_3, zp_4, zp_5, zp_6, zp_7, zp_8, zp_9, zp_10, zp_11, zp_12, zp_20, zp_21, zp_22, upS_eq, upS_ne, upS_up, upz_eq, upz_ne, upz_up, px_al_aI, px_as_aI, px_as_aZ, px_as_aC, px_ln_aI, Option.toList, List.cons_append, List.nil_append, Int.reduceAdd, Int.reduceSub, Int.reduceMul, ↓reduceIte, Nat.reduceEqDiff, eq_self, Int.reduceEq, Int.reduceLT, Int.reduceLE, Int.reduceNe, Int.reduceNeg, Int.reduceToNat, ne_eq, not_true_eq_false, not_false_eq_true, t0, t1, t2, t3, t4, t5, t6, t7, t8])) | simp (disch := first | omega | decide) only [upz_srt, upy_upz, upz_up, upS_srt, upT_upS, upS_up] | with_reducible refine px_ite (fun _ => ?_) (fun _ => ?_))
      exact k
    | succ t ih =>
      intro c' hc k
      have h0 := hc0 c' (by omega)
      have hcn := cnt_r (X := M.2 2) (Y := M.2 3) (x := M.2 2 c') (y := M.2 3 c') n
      have e2 := hR.2.1 2 c' (by decide) (by decide) (by omega)
      have e3 := hR.2.1 3 c' (by decide) (by decide) (by omega)
      have e4 := hR.2.1 4 c' (by decide) (by decide) (by omega)
      unfold cAt at k
      by_cases g : M.2 2 c' = x ∧ M.2 3 c' = y ∧ M.2 4 c' = i
      · rw [if_pos g] at k
        rw [el_X7_cellAt_9]; repeat' (first | (simp (disch := first | with_reducible assumption | omega | decide | (simp only [ps_low, List.map_cons, List.map_nil, Value.category, List.sum_cons, List.sum_nil]; decide)) only [el_X7_cellAt_0, el_X7_cellAt_4, el_X7_cellAt_6, el_X7_cellAt_7, el_X7_cellAt_11, el_X7_cellAt_13, el_X7_cellAt_16, el_X7_cellAt_17, el_X7_cellAt_20, el_X7_cellAt_22, el_X7_cellAt_23, el_X7_cellAt_24, el_X7_cellAt_27, el_X7_cellAt_28, el_X7_cellAt_31, el_X7_cellAt_33, el_X7_cellAt_34, el_X7_cellAt_35, el_X7_cellAt_38, el_X7_cellAt_39, el_X7_cellAt_42, el_X7_cellAt_44, el_X7_cellAt_45, el_X7_cellAt_46, el_X7_cellAt_49, el_X7_cellAt_51, el_X7_cellAt_52, el_X7_cellAt_55, el_X7_cellAt_58, el_X7_cellAt_59, gf_7_6, gf_7_7, gf_7_8, px_ifp, px_ifn, zh_1, zc_1, zc_2, zc_3, zc_4, zc_5, zc_6, zc_7, zc_8, zc_9, zc_10, zc_11, zc_12, zc_20, zc_21, zc_22, zp_1, zp_2, zp_3, zp_4, zp_5, zp_6, zp_7, zp_8, zp_9, zp_10, zp_11, zp_12, zp_20, zp_21, zp_22, upS_eq, upS_ne, upS_up, upz_eq, upz_ne, upz_up, px_al_aI, px_as_aI, px_as_aZ, px_as_aC, px_ln_aI, Option.toList, List.cons_append, List.nil_append, Int.reduceAdd, Int.reduceSub, Int.reduceMul, ↓reduceIte, Nat.reduceEqDiff, eq_self, Int.reduceEq, Int.reduceLT, Int.reduceLE, Int.reduceNe, Int.reduceNeg, Int.reduceToNat, ne_eq, not_true_eq_false, not_false_eq_true, t0, t1, t2, t3, t4, t5, t6, t7, t8, Int.toNat_natCast, e2, e3, e4]; repeat (first | simp (disch := first | omega | decide) only [upz_srt, upy_upz, upz_up, upS_srt, upT_upS, upS_up] | simp (disch := first | with_reducible assumption | omega | decide | (simp only [ps_low, List.map_cons, List.map_nil, Value.category, List.sum_cons, List.sum_nil]; decide)) only [el_X7_cellAt_0, el_X7_cellAt_4, el_X7_cellAt_6, el_X7_cellAt_7, el_X7_cellAt_11, el_X7_cellAt_13, el_X7_cellAt_16, el_X7_cellAt_17, el_X7_cellAt_20, el_X7_cellAt_22, el_X7_cellAt_23, el_X7_cellAt_24, el_X7_cellAt_27, el_X7_cellAt_28, el_X7_cellAt_31, el_X7_cellAt_33, el_X7_cellAt_34, el_X7_cellAt_35, el_X7_cellAt_38, el_X7_cellAt_39, el_X7_cellAt_42, el_X7_cellAt_44, el_X7_cellAt_45, el_X7_cellAt_46, el_X7_cellAt_49, el_X7_cellAt_51, el_X7_cellAt_52, el_X7_cellAt_55, el_X7_cellAt_58, el_X7_cellAt_59, gf_7_6, gf_7_7, gf_7_8, px_ifp, px_ifn, zh_1, zc_1, zc_2, zc_3, zc_4, zc_5, zc_6, zc_7, zc_8, zc_9, zc_10, zc_11, zc_12, zc_20, zc_21, zc_22, zp_1, zp_2, zp_3, zp_4, zp_5, zp_6, zp_7, zp_8, zp_9, zp_10, zp_11, zp_12, zp_20, zp_21, zp_22, upS_eq, upS_ne, upS_up, upz_eq, upz_ne, upz_up, px_al_aI, px_as_aI, px_as_aZ, px_as_aC, px_ln_aI, Option.toList, List.cons_append, List.nil_append, Int.reduceAdd, Int.reduceSub, Int.reduceMul, ↓reduceIte, Nat.reduceEqDiff, eq_self, Int.reduceEq, Int.reduceLT, Int.reduceLE, Int.reduceNe, Int.reduceNeg, Int.reduceToNat, ne_eq, not_true_eq_false, not_false_eq_true, t0, t1, t2, t3, t4, t5, t6, t7, t8, Int.toNat_natCast, e2, e3, e4])) | simp (disch := first | omega | decide) only [upz_srt, upy_upz, upz_up, upS_srt, upT_upS, upS_up] | with_reducible refine px_ite (fun _ => ?_) (fun _ => ?_))
        exact k
      · rw [if_neg g] at k
        have nx := ih (c' + 1) (by omega) k
        rw [el_X7_cellAt_9]; repeat' (first | (simp (disch := first | with_reducible assumption | omega | decide | (simp only [ps_low, List.map_cons, List.map_nil, Value.category, List.sum_cons, List.sum_nil]; decide)) only [el_X7_cellAt_0, el_X7_cellAt_4, el_X7_cellAt_6, el_X7_cellAt_7, el_X7_cellAt_11, el_X7_cellAt_13, el_X7_cellAt_16, el_X7_cellAt_17, el_X7_cellAt_20, el_X7_cellAt_22, el_X7_cellAt_23, el_X7_cellAt_24, el_X7_cellAt_27, el_X7_cellAt_28, el_X7_cellAt_31, el_X7_cellAt_33, el_X7_cellAt_34, el_X7_cellAt_35, el_X7_cellAt_38, el_X7_cellAt_39, el_X7_cellAt_42, el_X7_cellAt_44, el_X7_cellAt_45, el_X7_cellAt_46, el_X7_cellAt_49, el_X7_cellAt_51, el_X7_cellAt_52, el_X7_cellAt_55, el_X7_cellAt_58, el_X7_cellAt_59, gf_7_6, gf_7_7, gf_7_8, px_ifp, px_ifn, zh_1, zc_1, zc_2, zc_3, zc_4, zc_5, zc_6, zc_7, zc_8, zc_9, zc_10, zc_11, zc_12, zc_20, zc_21, zc_22, zp_1, zp_2, zp_3, zp_4, zp_5, zp_6, zp_7, zp_8, zp_9, zp_10, zp_11, zp_12, zp_20, zp_21, zp_22, upS_eq, upS_ne, upS_up, upz_eq, upz_ne, upz_up, px_al_aI, px_as_aI, px_as_aZ, px_as_aC, px_ln_aI, Option.toList, List.cons_append, List.nil_append, Int.reduceAdd, Int.reduceSub, Int.reduceMul, ↓reduceIte, Nat.reduceEqDiff, eq_self, Int.reduceEq, Int.reduceLT, Int.reduceLE, Int.reduceNe, Int.reduceNeg, Int.reduceToNat, ne_eq, not_true_eq_false, not_false_eq_true, t0, t1, t2, t3, t4, t5, t6, t7, t8, Int.toNat_natCast, e2, e3, e4]; repeat (first | simp (disch := first | omega | decide) only [upz_srt, upy_upz, upz_up, upS_srt, upT_upS, upS_up] | simp (disch := first | with_reducible assumption | omega | decide | (simp only [ps_low, List.map_cons, List.map_nil, Value.category, List.sum_cons, List.sum_nil]; decide)) only [el_X7_cellAt_0, el_X7_cellAt_4, el_X7_cellAt_6, el_X7_cellAt_7, el_X7_cellAt_11, el_X7_cellAt_13, el_X7_cellAt_16, el_X7_cellAt_17, el_X7_cellAt_20, el_X7_cellAt_22, el_X7_cellAt_23, el_X7_cellAt_24, el_X7_cellAt_27, el_X7_cellAt_28, el_X7_cellAt_31, el_X7_cellAt_33, el_X7_cellAt_34, el_X7_cellAt_35, el_X7_cellAt_38, el_X7_cellAt_39, el_X7_cellAt_42, el_X7_cellAt_44, el_X7_cellAt_45, el_X7_cellAt_46, el_X7_cellAt_49, el_X7_cellAt_51, el_X7_cellAt_52, el_X7_cellAt_55, el_X7_cellAt_58, el_X7_cellAt_59, gf_7_6, gf_7_7, gf_7_8, px_ifp, px_ifn, zh_1, zc_1, zc_2, zc_3, zc_4, zc_5, zc_6, zc_7, zc_8, zc_9, zc_10, zc_11, zc_12, zc_20, zc_21, zc_22, zp_1, zp_2, zp_3, zp_4, zp_5, zp_6, zp_7, zp_8, zp_9, zp_10, zp_11, zp_12, zp_20, zp_21, zp_22, upS_eq, upS_ne, upS_up, upz_eq, upz_ne, upz_up, px_al_aI, px_as_aI, px_as_aZ, px_as_aC, px_ln_aI, Option.toList, List.cons_append, List.nil_append, Int.reduceAdd, Int.reduceSub, Int.reduceMul, ↓reduceIte, Nat.reduceEqDiff, eq_self, Int.reduceEq, Int.reduceLT, Int.reduceLE, Int.reduceNe, Int.reduceNeg, Int.reduceToNat, ne_eq, not_true_eq_false, not_false_eq_true, t0, t1, t2, t3, t4, t5, t6, t7, t8, Int.toNat_natCast, e2, e3, e4])) | simp (disch := first | omega | decide) only [upz_srt, upy_upz, upz_up, upS_srt, upT_upS, upS_up] | with_reducible refine px_ite (fun _ => ?_) (fun _ => ?_))
        all_goals exact nx
  have l0 := loop n 0 (by omega) hQ
  (simp (disch := first | with_reducible assumption | omega | decide | (simp only [ps_low, List.map_cons, List.map_nil, Value.category, List.sum_cons, List.sum_nil]; decide)) only [el_X7_cellAt_0, el_X7_cellAt_4, el_X7_cellAt_6, el_X7_cellAt_7, el_X7_cellAt_11, el_X7_cellAt_13, el_X7_cellAt_16, el_X7_cellAt_17, el_X7_cellAt_20, el_X7_cellAt_22, el_X7_cellAt_23, el_X7_cellAt_24, el_X7_cellAt_27, el_X7_cellAt_28, el_X7_cellAt_31, el_X7_cellAt_33, el_X7_cellAt_34, el_X7_cellAt_35, el_X7_cellAt_38, el_X7_cellAt_39, el_X7_cellAt_42, el_X7_cellAt_44, el_X7_cellAt_45, el_X7_cellAt_46, el_X7_cellAt_49, el_X7_cellAt_51, el_X7_cellAt_52, el_X7_cellAt_55, el_X7_cellAt_58, el_X7_cellAt_59, gf_7_6, gf_7_7, gf_7_8, px_ifp, px_ifn, zh_1, zc_1, zc_2, zc_3, zc_4, zc_5, zc_6, zc_7, zc_8, zc_9, zc_10, zc_11, zc_12, zc_20, zc_21, zc_22, zp_1, zp_2, zp_3, zp_4, zp_5, zp_6, zp_7, zp_8, zp_9, zp_10, zp_11, zp_12, zp_20, zp_21, zp_22, upS_eq, upS_ne, upS_up, upz_eq, upz_ne, upz_up, px_al_aI, px_as_aI, px_as_aZ, px_as_aC, px_ln_aI, Option.toList, List.cons_append, List.nil_append, Int.reduceAdd, Int.reduceSub, Int.reduceMul, ↓reduceIte, Nat.reduceEqDiff, eq_self, Int.reduceEq, Int.reduceLT, Int.reduceLE, Int.reduceNe, Int.reduceNeg, Int.reduceToNat, ne_eq, not_true_eq_false, not_false_eq_true, t0, t1, t2, t3, t4, t5, t6, t7, t8, el_X7_cellAt_1 (hC ..) _ (zo_8 _) _]; repeat (first | simp (disch := first | omega | decide) only [upz_srt, upy_upz, upz_up, upS_srt, upT_upS, upS_up] | simp (disch := first | with_reducible assumption | omega | decide | (simp only [ps_low, List.map_cons, List.map_nil, Value.category, List.sum_cons, List.sum_nil]; decide)) only [el_X7_cellAt_0, el_X7_cellAt_4, el_X7_cellAt_6, el_X7_cellAt_7, el_X7_cellAt_11, el_X7_cellAt_13, el_X7_cellAt_16, el_X7_cellAt_17, el_X7_cellAt_20, el_X7_cellAt_22, el_X7_cellAt_23, el_X7_cellAt_24, el_X7_cellAt_27, el_X7_cellAt_28, el_X7_cellAt_31, el_X7_cellAt_33, el_X7_cellAt_34, el_X7_cellAt_35, el_X7_cellAt_38, el_X7_cellAt_39, el_X7_cellAt_42, el_X7_cellAt_44, el_X7_cellAt_45, el_X7_cellAt_46, el_X7_cellAt_49, el_X7_cellAt_51, el_X7_cellAt_52, el_X7_cellAt_55, el_X7_cellAt_58, el_X7_cellAt_59, gf_7_6, gf_7_7, gf_7_8, px_ifp, px_ifn, zh_1, zc_1, zc_2, zc_3, zc_4, zc_5, zc_6, zc_7, zc_8, zc_9, zc_10, zc_11, zc_12, zc_20, zc_21, zc_22, zp_1, zp_2, zp_3, zp_4, zp_5, zp_6, zp_7, zp_8, zp_9, zp_10, zp_11, zp_12, zp_20, zp_21, zp_22, upS_eq, upS_ne, upS_up, upz_eq, upz_ne, upz_up, px_al_aI, px_as_aI, px_as_aZ, px_as_aC, px_ln_aI, Option.toList, List.cons_append, List.nil_append, Int.reduceAdd, Int.reduceSub, Int.reduceMul, ↓reduceIte, Nat.reduceEqDiff, eq_self, Int.reduceEq, Int.reduceLT, Int.reduceLE, Int.reduceNe, Int.reduceNeg, Int.reduceToNat, ne_eq, not_true_eq_false, not_false_eq_true, t0, t1, t2, t3, t4, t5, t6, t7, t8, el_X7_cellAt_1 (hC ..) _ (zo_8 _) _]))
  exact l0
theorem cntC_congr {R D R' D' : Nat → Int} : ∀ n : Nat, (∀ c, c < n → R c = R' c ∧ D c = D' c) → cntC R D n = cntC R' D' n
  | 0, _ => rfl
  | n + 1, h => by
    unfold cntC
    rw [cntC_congr n (fun c hc => h c (by omega)), (h n (by omega)).1, (h n (by omega)).2]
theorem s_countCreases {T : Nat → Nat × Nat} {S : Nat → Nat → Int} {c : pm_M × pm_C} {q w n : Nat} {M : sM} (hq : ly7 T q) (hR : shR S q n M) (hI : shI w n M) :
    px_R 1 73 [.ref q, .retAddr 0, .retAddr 0, .retAddr 0] (zh T S c) (.inl (some (.int (zI (cntC (M.2 5) (M.2 6) n))))) (zh T S c) := by
  obtain ⟨⟨⟨w1, w8, hw⟩, ⟨hh1, hh8, hn, n1, n64⟩, ⟨c1, c8⟩, ⟨l1, l8⟩, f0, f14⟩, hc0, -⟩ := id hI
  have e5 := fun c hc => hR.2.1 5 c (by decide) (by decide) hc
  have e6 := fun c hc => hR.2.1 6 c (by decide) (by decide) hc
  have h := c_countCreases (sh_zh (S := S) (c := c) hq) (hR.ok hI) (fun c hc => by
    rw [e5 c hc, e6 c hc]
    have := hc0 c hc
    omega)
  rw [cntC_congr n (fun c hc => ⟨e5 c hc, e6 c hc⟩)] at h
  exact h
theorem s_creaseOf {T : Nat → Nat × Nat} {S : Nat → Nat → Int} {c : pm_M × pm_C} {q w n k : Nat} {M : sM} {x y dn : Int} (hq : ly7 T q) (hR : shR S q n M) (hI : shI w n M) (hk : (k : Int) = M.1 0 * y + x) (hkn : k < n) (hd : dn = 0 ∨ dn = 1) :
    px_R 0 72 [.ref q, .int (zI x), .int (zI y), .int (zI dn), .retAddr 0] (zh T S c) (.inl (some (.int (zI (if dn = 1 then M.2 6 k else M.2 5 k))))) (zh T S c) := by
  obtain ⟨⟨⟨w1, w8, hw⟩, ⟨hh1, hh8, hn, n1, n64⟩, ⟨c1, c8⟩, ⟨l1, l8⟩, f0, f14⟩, hc0, -⟩ := id hI
  have h := c_creaseOf (x := x) (y := y) (dn := dn) (sh_zh (S := S) (c := c) hq) (by rw [hR.1 0 (by decide), ← hk]; omega) hd
  rw [hR.1 0 (by decide), ← hk, if_pos (by omega), Int.toNat_natCast, hR.2.1 5 k (by decide) (by decide) hkn, hR.2.1 6 k (by decide) (by decide) hkn] at h
  exact h
/-- the same creases, the same weights -/
def samC (n : Nat) (M N : sM) : Prop := ∀ c, c < n → M.2 5 c % 10 = N.2 5 c % 10 ∧ M.2 6 c % 10 = N.2 6 c % 10
def samW (n : Nat) (M N : sM) : Prop := M.1 2 = N.1 2 ∧ M.1 3 = N.1 3 ∧ ∀ x y : Nat, x < 8 → y < 8 → cnt (M.2 2) (M.2 3) x y n = cnt (N.2 2) (N.2 3) x y n
theorem s_hasCreases {T : Nat → Nat × Nat} {S : Nat → Nat → Int} {c : pm_M × pm_C} {q r w n : Nat} {M N : sM} {v : Int} (hv : v = 0 ∨ v = 1) (hP : v = 1 ↔ samC n M N) (hq : ly7 T q) (hr : ly7 T r) (hR : shR S q n M) (hI : shI w n M) (hR' : shR S r n N) (hI' : shI w n N) :
    px_R 0 76 [.ref q, .ref r, .retAddr 0] (zh T S c) (.inl (some (.int (zI v)))) (zh T S c) := by
  obtain ⟨⟨⟨w1, w8, hw⟩, ⟨hh1, hh8, hn, n1, n64⟩, ⟨c1, c8⟩, ⟨l1, l8⟩, f0, f14⟩, hc0, -⟩ := id hI
  obtain ⟨⟨⟨w1', w8', hw'⟩, ⟨hh1', hh8', hn', n1', n64'⟩, ⟨c1', c8'⟩, ⟨l1', l8'⟩, f0', f14'⟩, hc0', -⟩ := id hI'
  have e5 := fun c hc => hR.2.1 5 c (by decide) (by decide) hc
  have e6 := fun c hc => hR.2.1 6 c (by decide) (by decide) hc
  have d5 := fun c hc => hR'.2.1 5 c (by decide) (by decide) hc
  have d6 := fun c hc => hR'.2.1 6 c (by decide) (by decide) hc
  refine c_hasCreasesOf hv ?_ (sh_zh (S := S) (c := c) hq) (sh_zh (S := S) (c := c) hr) (fun c hc => ?_)
  · rw [hP]
    constructor
    · intro h c hc
      by_cases g : c < n
      · rw [e5 c g, e6 c g, d5 c g, d6 c g]
        exact h c g
      · have a := hR.2.2.1 c (by omega) hc
        have b := hR'.2.2.1 c (by omega) hc
        rw [a.1, a.2, b.1, b.2]
        exact ⟨rfl, rfl⟩
    · intro h c hc
      have := h c (by omega)
      rw [e5 c hc, e6 c hc, d5 c hc, d6 c hc] at this
      exact this
  · by_cases g : c < n
    · rw [e5 c g, e6 c g, d5 c g, d6 c g]
      have := hc0 c g
      have := hc0' c g
      omega
    · have a := hR.2.2.1 c (by omega) hc
      have b := hR'.2.2.1 c (by omega) hc
      rw [a.1, a.2, b.1, b.2]
      decide
theorem s_hasWeights {T : Nat → Nat × Nat} {S : Nat → Nat → Int} {c : pm_M × pm_C} {q r w n : Nat} {M N : sM} {v : Int} (hv : v = 0 ∨ v = 1) (hP : v = 1 ↔ samW n M N) (hq : ly7 T q) (hr : ly7 T r) (hR : shR S q n M) (hI : shI w n M) (hR' : shR S r n N) (hI' : shI w n N) :
    px_R 0 77 [.ref q, .ref r, .retAddr 0] (zh T S c) (.inl (some (.int (zI v)))) (zh T S c) := by
  have o := hR.ok hI
  have o' := hR'.ok hI'
  have n64 := o.2.2.2.2.2.2
  have e : ∀ c, c < 64 → S (q + 7) c = cnt (M.2 2) (M.2 3) ((c % 8 : Nat) : Int) ((c / 8 : Nat) : Int) n ∧ S (r + 7) c = cnt (N.2 2) (N.2 3) ((c % 8 : Nat) : Int) ((c / 8 : Nat) : Int) n := by
    intro c hc
    have h1 := hR.2.2.2 (c % 8) (c / 8) (by omega) (by omega)
    have h2 := hR'.2.2.2 (c % 8) (c / 8) (by omega) (by omega)
    rw [show 8 * (c / 8) + c % 8 = c by omega] at h1 h2
    exact ⟨h1, h2⟩
  refine c_hasWeightsOf hv ?_ (sh_zh (S := S) (c := c) hq) (sh_zh (S := S) (c := c) hr) o.2.2.1 o.2.2.2.1 o'.2.2.1 o'.2.2.2.1 (fun c hc => ?_)
  · rw [hP, hR.1 2 (by decide), hR.1 3 (by decide), hR'.1 2 (by decide), hR'.1 3 (by decide)]
    constructor
    · rintro ⟨h1, h2, h3⟩
      refine ⟨h1, h2, fun c hc => ?_⟩
      rw [(e c hc).1, (e c hc).2]
      exact h3 _ _ (by omega) (by omega)
    · rintro ⟨h1, h2, h3⟩
      refine ⟨h1, h2, fun x y hx hy => ?_⟩
      have := h3 (8 * y + x) (by omega)
      rw [hR.2.2.2 x y hx hy, hR'.2.2.2 x y hx hy] at this
      exact this
  · rw [(e c hc).1, (e c hc).2]
    have := cnt_r (X := M.2 2) (Y := M.2 3) (x := ((c % 8 : Nat) : Int)) (y := ((c / 8 : Nat) : Int)) n
    have := cnt_r (X := N.2 2) (Y := N.2 3) (x := ((c % 8 : Nat) : Int)) (y := ((c / 8 : Nat) : Int)) n
    omega
