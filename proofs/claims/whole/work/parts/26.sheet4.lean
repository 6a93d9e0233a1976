/-! A SHEET, 4: turnCells -/
def wAt (f : Nat → Int) (x y : Int) : Int := if (0 ≤ x ∧ x < 8) ∧ 0 ≤ y ∧ y < 8 then f (8 * y + x).toNat else 0
/-- of the first i cells those that move: a; else b -/
def tcS (i : Nat) (mv a b : Nat → Int) : Nat → Int := fun j => if j < i ∧ ¬ mv j = 0 then a j else b j
theorem tcS_at {i : Nat} {mv a b : Nat → Int} : tcS i mv a b i = b i := by
  unfold tcS
  rw [if_neg (fun g => Nat.lt_irrefl i g.1)]
theorem upz_at {f : Nat → Int} {k : Nat} {x : Int} : upz f k x k = x := by
  unfold upz
  rw [if_pos rfl]
theorem tcS_keep {i : Nat} {mv a b : Nat → Int} (h : mv i = 0 ∨ a i = b i) : tcS i mv a b = tcS (i + 1) mv a b := by
  funext j
  unfold tcS
  by_cases h1 : j = i
  · subst h1
    rw [if_neg (fun g => Nat.lt_irrefl j g.1)]
    by_cases h2 : mv j = 0
    · rw [if_neg (fun g => g.2 h2)]
    · rw [if_pos ⟨Nat.lt_succ_self j, h2⟩]
      rcases h with h | h
      · exact absurd h h2
      · exact h.symm
  · by_cases h2 : mv j = 0
    · rw [if_neg (fun g => g.2 h2), if_neg (fun g => g.2 h2)]
    · by_cases h3 : j < i
      · rw [if_pos ⟨h3, h2⟩, if_pos ⟨by omega, h2⟩]
      · rw [if_neg (fun g => h3 g.1), if_neg (fun g => h3 (by have := g.1; omega))]
theorem tcS_upd {i : Nat} {mv a b : Nat → Int} {v : Int} (h : ¬ mv i = 0) (hv : v = a i) : upz (tcS i mv a b) i v = tcS (i + 1) mv a b := by
  funext j
  unfold upz tcS
  by_cases h1 : j = i
  · subst h1
    rw [if_pos rfl, if_pos ⟨Nat.lt_succ_self j, h⟩, hv]
  · rw [if_neg h1]
    by_cases h2 : mv j = 0
    · rw [if_neg (fun g => g.2 h2), if_neg (fun g => g.2 h2)]
    · by_cases h3 : j < i
      · rw [if_pos ⟨h3, h2⟩, if_pos ⟨by omega, h2⟩]
      · rw [if_neg (fun g => h3 g.1), if_neg (fun g => h3 (by have := g.1; omega))]
def tcH (h : pm_H) (q : Nat) (b x y l : Nat → Int) : pm_H := pm_put (pm_put (pm_put (pm_put h (q + 1) (aI 0 64 b)) (q + 2) (aI 0 64 x)) (q + 3) (aI 0 64 y)) (q + 4) (aI 0 64 l)
theorem tc_sh {h : pm_H} {q : Nat} {F : Nat → Int} {B : Nat → Nat → Int} (hs : sh h q F B) (b x y l : Nat → Int) : sh (tcH h q b x y l) q F (upB (upB (upB (upB B 1 b) 2 x) 3 y) 4 l) := (((hs.put 1 _ (by decide)).put 2 _ (by decide)).put 3 _ (by decide)).put 4 _ (by decide)
theorem tc_1 {h : pm_H} {q : Nat} {b x y l b' : Nat → Int} : pm_put (tcH h q b x y l) (q + 1) (aI 0 64 b') = tcH h q b' x y l := by
  unfold tcH
  rw [pm_put_comm (a := q + 4) (b := q + 1) (by omega), pm_put_comm (a := q + 3) (b := q + 1) (by omega), pm_put_comm (a := q + 2) (b := q + 1) (by omega), pm_put_put]
theorem tc_2 {h : pm_H} {q : Nat} {b x y l x' : Nat → Int} : pm_put (tcH h q b x y l) (q + 2) (aI 0 64 x') = tcH h q b x' y l := by
  unfold tcH
  rw [pm_put_comm (a := q + 4) (b := q + 2) (by omega), pm_put_comm (a := q + 3) (b := q + 2) (by omega), pm_put_put]
theorem tc_3 {h : pm_H} {q : Nat} {b x y l y' : Nat → Int} : pm_put (tcH h q b x y l) (q + 3) (aI 0 64 y') = tcH h q b x y' l := by
  unfold tcH
  rw [pm_put_comm (a := q + 4) (b := q + 3) (by omega), pm_put_put]
theorem tc_4 {h : pm_H} {q : Nat} {b x y l l' : Nat → Int} : pm_put (tcH h q b x y l) (q + 4) (aI 0 64 l') = tcH h q b x y l' := by
  unfold tcH
  rw [pm_put_put]
theorem c_turnCells {h : pm_H} {q n : Nat} {F : Nat → Int} {B : Nat → Nat → Int} {up edge : Int} (hs : sh h q F B) (ho : sh_ok F n) (hu : up = 0 ∨ up = 1) (he : 0 ≤ edge ∧ edge ≤ 8) (hp : ∀ c, c < n → (0 ≤ B 2 c ∧ B 2 c < 8) ∧ 0 ≤ B 3 c ∧ B 3 c < 8) (hm : ∀ c, c < n → B 8 c = 0 ∨ B 8 c = 1) :
    px_R 1 66 [.ref q, .int (zI up), .int (zI edge), .retAddr 0, .retAddr 0, .retAddr 0] h (.inl none) (tcH h q (tcS n (B 8) (fun j => 1 - B 1 j) (B 1)) (tcS n (B 8) (fun j => if up = 1 then 2 * edge - 1 - B 2 j else B 2 j) (B 2)) (tcS n (B 8) (fun j => if up = 1 then B 3 j else 2 * edge - 1 - B 3 j) (B 3))
      (tcS n (B 8) (fun j => wAt (B 7) (if up = 1 then 2 * edge - 1 - B 2 j else B 2 j) (if up = 1 then B 3 j else 2 * edge - 1 - B 3 j) + (wAt (B 7) (B 2 j) (B 3 j) - 1 - B 4 j)) (B 4))) := by
  obtain ⟨ho0, ho1, ho2, ho3, hn, hn1, hn2⟩ := id ho
  refine px_ofQ fun Q hQ => ?_
  have loop : ∀ (t i : Nat) (l5 : Value), i + t = n →
      px_Ev 1 66 8 [.ref q, .int (zI up), .int (zI edge), .int (zI n), .int (zI i), l5] [] (tcH h q (tcS i (B 8) (fun j => 1 - B 1 j) (B 1)) (tcS i (B 8) (fun j => if up = 1 then 2 * edge - 1 - B 2 j else B 2 j) (B 2)) (tcS i (B 8) (fun j => if up = 1 then B 3 j else 2 * edge - 1 - B 3 j) (B 3))
        (tcS i (B 8) (fun j => wAt (B 7) (if up = 1 then 2 * edge - 1 - B 2 j else B 2 j) (if up = 1 then B 3 j else 2 * edge - 1 - B 3 j) + (wAt (B 7) (B 2 j) (B 3 j) - 1 - B 4 j)) (B 4))) Q := by
    intro t
    induction t with
    | zero =>
      intro i l5 hi
      have e : i = n := by omega
      subst e
      simp (disch := omega) only [el_X7_turnCells_8, el_X7_turnCells_10, el_X7_turnCells_11, el_X7_turnCells_154]
      rw [if_pos (Int.le_refl _)]
      exact hQ
    | succ t ih =>
      intro i l5 hi
      have hi1 : i < n := by omega
      have hpi := hp i hi1
      have hmi := hm i hi1
      have e0 : (i : Int).toNat = i := by omega
      have key : ∀ (l5 : Value) (b x y l : Nat → Int), b = tcS (i + 1) (B 8) (fun j => 1 - B 1 j) (B 1) → x = tcS (i + 1) (B 8) (fun j => if up = 1 then 2 * edge - 1 - B 2 j else B 2 j) (B 2) → y = tcS (i + 1) (B 8) (fun j => if up = 1 then B 3 j else 2 * edge - 1 - B 3 j) (B 3) →
          l = tcS (i + 1) (B 8) (fun j => wAt (B 7) (if up = 1 then 2 * edge - 1 - B 2 j else B 2 j) (if up = 1 then B 3 j else 2 * edge - 1 - B 3 j) + (wAt (B 7) (B 2 j) (B 3 j) - 1 - B 4 j)) (B 4) →
          px_Ev 1 66 8 [.ref q, .int (zI up), .int (zI edge), .int (zI n), .int (zI ((i : Int) + 1)), l5] [] (tcH h q b x y l) Q := by
        intro l5 b x y l hb hx hy hl
        rw [hb, hx, hy, hl]
        exact ih (i + 1) l5 (by omega)
      have s0 : ∀ b x y l, (tcH h q b x y l).1 q = some (o7 q F) := fun b x y l => (tc_sh hs b x y l).1
      have s1 : ∀ b x y l, (tcH h q b x y l).1 (q + 1) = some (aI 0 64 b) := fun b x y l => (tc_sh hs b x y l).2.1
      have s2 : ∀ b x y l, (tcH h q b x y l).1 (q + 2) = some (aI 0 64 x) := fun b x y l => (tc_sh hs b x y l).2.2.1
      have s3 : ∀ b x y l, (tcH h q b x y l).1 (q + 3) = some (aI 0 64 y) := fun b x y l => (tc_sh hs b x y l).2.2.2.1
      have s4 : ∀ b x y l, (tcH h q b x y l).1 (q + 4) = some (aI 0 64 l) := fun b x y l => (tc_sh hs b x y l).2.2.2.2.1
      have s8 : ∀ b x y l, (tcH h q b x y l).1 (q + 8) = some (aI 1 64 (B 8)) := fun b x y l => (tc_sh hs b x y l).2.2.2.2.2.2.2.2
      have wt : ∀ (b x y l : Nat → Int) (u v : Int), -2147483648 ≤ u ∧ u ≤ 2147483647 → -2147483648 ≤ v ∧ v ≤ 2147483647 → px_R 0 70 [.ref q, .int (zI u), .int (zI v), .retAddr 0] (tcH h q b x y l) (.inl (some (.int (zI (wAt (B 7) u v))))) (tcH h q b x y l) := by
        intro b x y l u v hu hv
        have := c_weightAt (tc_sh hs b x y l) hu hv
        exact this
      simp (disch := omega) only [el_X7_turnCells_8, el_X7_turnCells_10, el_X7_turnCells_11]
      rw [if_neg (by omega)]
      simp (disch := omega) only [el_X7_turnCells_14, el_X7_turnCells_15, el_X7_turnCells_18, el_X7_turnCells_20, el_X7_turnCells_21, s0, s8, gf_7_12, px_al_aI, e0]
      by_cases hmv : B 8 i = 0
      · simp (disch := omega) only [hmv, el_X7_turnCells_24, el_X7_turnCells_148, el_X7_turnCells_151, ↓reduceIte, Nat.reduceEqDiff, eq_self, Int.reduceEq, Int.reduceLT, Int.reduceLE, Int.reduceNe, Int.reduceNeg, Int.reduceToNat, ne_eq, not_true_eq_false, not_false_eq_true]
        exact key _ _ _ _ _ (tcS_keep (.inl hmv)) (tcS_keep (.inl hmv)) (tcS_keep (.inl hmv)) (tcS_keep (.inl hmv))
      · simp (disch := omega) only [hmv, el_X7_turnCells_27, el_X7_turnCells_28, el_X7_turnCells_29, el_X7_turnCells_32, el_X7_turnCells_34, el_X7_turnCells_35, el_X7_turnCells_36, el_X7_turnCells_39, el_X7_turnCells_41, ↓reduceIte, Nat.reduceEqDiff, eq_self, Int.reduceEq, Int.reduceLT, Int.reduceLE, Int.reduceNe, Int.reduceNeg, Int.reduceToNat, ne_eq, not_true_eq_false, not_false_eq_true, s0, s2, s3, gf_7_6, gf_7_7, px_al_aI, e0, tcS_at]
        rw [el_X7_turnCells_42 (wt _ _ _ _ _ _ (by omega) (by omega)) (by decide) (s0 _ _ _ _) rfl]
        simp (disch := omega) only [Option.toList, List.cons_append, List.nil_append, el_X7_turnCells_45, el_X7_turnCells_46, el_X7_turnCells_47, el_X7_turnCells_48, el_X7_turnCells_51, el_X7_turnCells_53, el_X7_turnCells_54, el_X7_turnCells_55, el_X7_turnCells_57, el_X7_turnCells_58, s0, s4, gf_7_8, px_al_aI, e0, tcS_at]
        rcases hu with rfl | rfl
        · simp (disch := omega) only [el_X7_turnCells_84, el_X7_turnCells_85, el_X7_turnCells_88, el_X7_turnCells_90, el_X7_turnCells_91, el_X7_turnCells_92, el_X7_turnCells_93, el_X7_turnCells_94, el_X7_turnCells_95, el_X7_turnCells_96, el_X7_turnCells_99, el_X7_turnCells_101, el_X7_turnCells_102, el_X7_turnCells_103, el_X7_turnCells_104, el_X7_turnCells_105, el_X7_turnCells_108, el_X7_turnCells_110, el_X7_turnCells_111, el_X7_turnCells_112, el_X7_turnCells_115, el_X7_turnCells_117, el_X7_turnCells_118, el_X7_turnCells_119, el_X7_turnCells_122, el_X7_turnCells_124, ↓reduceIte, Nat.reduceEqDiff, eq_self, Int.reduceEq, Int.reduceLT, Int.reduceLE, Int.reduceNe, Int.reduceNeg, Int.reduceToNat, ne_eq, not_true_eq_false, not_false_eq_true, s0, s2, s3, tc_3, gf_7_6, gf_7_7, gf_7_8, px_al_aI, px_as_aI, e0, tcS_at, upz_at]
          rw [el_X7_turnCells_125 (wt _ _ _ _ _ _ (by omega) (by omega)) (by decide) (s0 _ _ _ _) rfl]
          simp (disch := omega) only [Option.toList, List.cons_append, List.nil_append, el_X7_turnCells_128, el_X7_turnCells_130, el_X7_turnCells_131, el_X7_turnCells_132, el_X7_turnCells_133, el_X7_turnCells_136, el_X7_turnCells_138, el_X7_turnCells_139, el_X7_turnCells_140, el_X7_turnCells_143, el_X7_turnCells_145, el_X7_turnCells_146, el_X7_turnCells_147, el_X7_turnCells_148, el_X7_turnCells_151, ↓reduceIte, Nat.reduceEqDiff, eq_self, Int.reduceEq, Int.reduceLT, Int.reduceLE, Int.reduceNe, Int.reduceNeg, Int.reduceToNat, ne_eq, not_true_eq_false, not_false_eq_true, s0, s1, s4, tc_1, tc_4, gf_7_5, px_al_aI, px_as_aI, e0, tcS_at]
          exact key _ _ _ _ _ (tcS_upd hmv rfl) (tcS_keep (.inr rfl)) (tcS_upd hmv rfl) (tcS_upd hmv rfl)
        · simp (disch := omega) only [el_X7_turnCells_61, el_X7_turnCells_62, el_X7_turnCells_65, el_X7_turnCells_67, el_X7_turnCells_68, el_X7_turnCells_69, el_X7_turnCells_70, el_X7_turnCells_71, el_X7_turnCells_72, el_X7_turnCells_73, el_X7_turnCells_76, el_X7_turnCells_78, el_X7_turnCells_79, el_X7_turnCells_80, el_X7_turnCells_81, el_X7_turnCells_84, el_X7_turnCells_85, el_X7_turnCells_88, el_X7_turnCells_90, el_X7_turnCells_91, el_X7_turnCells_92, el_X7_turnCells_93, el_X7_turnCells_94, el_X7_turnCells_95, el_X7_turnCells_96, el_X7_turnCells_99, el_X7_turnCells_101, el_X7_turnCells_102, el_X7_turnCells_103, el_X7_turnCells_104, el_X7_turnCells_105, el_X7_turnCells_108, el_X7_turnCells_110, el_X7_turnCells_111, el_X7_turnCells_112, el_X7_turnCells_115, el_X7_turnCells_117, el_X7_turnCells_118, el_X7_turnCells_119, el_X7_turnCells_122, el_X7_turnCells_124, ↓reduceIte, Nat.reduceEqDiff, eq_self, Int.reduceEq, Int.reduceLT, Int.reduceLE, Int.reduceNe, Int.reduceNeg, Int.reduceToNat, ne_eq, not_true_eq_false, not_false_eq_true, s0, s2, s3, tc_2, gf_7_6, gf_7_7, gf_7_8, px_al_aI, px_as_aI, e0, tcS_at, upz_at]
          rw [el_X7_turnCells_125 (wt _ _ _ _ _ _ (by omega) (by omega)) (by decide) (s0 _ _ _ _) rfl]
          simp (disch := omega) only [Option.toList, List.cons_append, List.nil_append, el_X7_turnCells_128, el_X7_turnCells_130, el_X7_turnCells_131, el_X7_turnCells_132, el_X7_turnCells_133, el_X7_turnCells_136, el_X7_turnCells_138, el_X7_turnCells_139, el_X7_turnCells_140, el_X7_turnCells_143, el_X7_turnCells_145, el_X7_turnCells_146, el_X7_turnCells_147, el_X7_turnCells_148, el_X7_turnCells_151, ↓reduceIte, Nat.reduceEqDiff, eq_self, Int.reduceEq, Int.reduceLT, Int.reduceLE, Int.reduceNe, Int.reduceNeg, Int.reduceToNat, ne_eq, not_true_eq_false, not_false_eq_true, s0, s1, s4, tc_1, tc_4, gf_7_5, px_al_aI, px_as_aI, e0, tcS_at]
          exact key _ _ _ _ _ (tcS_upd hmv rfl) (tcS_upd hmv rfl) (tcS_keep (.inr rfl)) (tcS_upd hmv rfl)
  obtain ⟨s0, s1, s2, s3, s4, s5, s6, s7, s8⟩ := id hs
  simp (disch := omega) only [el_X7_turnCells_0]
  rw [el_X7_turnCells_1 (c_cells hs ho) (by decide) s0 rfl]
  simp (disch := omega) only [Option.toList, List.cons_append, List.nil_append, el_X7_turnCells_4, el_X7_turnCells_5, el_X7_turnCells_6]
  have := loop n 0 (.retAddr 0) (by omega)
  have e0 : ∀ a b : Nat → Int, tcS 0 (B 8) a b = b := by
    intro a b
    funext j
    unfold tcS
    rw [if_neg (fun g => Nat.not_lt_zero j g.1)]
  have e : tcH h q (B 1) (B 2) (B 3) (B 4) = h := by
    unfold tcH
    rw [pm_put_same s1, pm_put_same s2, pm_put_same s3, pm_put_same s4]
  rw [e0, e0, e0, e0, e] at this
  exact this
