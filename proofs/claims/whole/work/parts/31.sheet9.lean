/-! Integer.compare; A SHEET, 9: wings -/
def cmpI (x y : Int) : Int := if x < y then -1 else if x = y then 0 else 1
theorem c_compare {h : pm_H} {x y : Int} (hr : (-2147483648 ≤ x ∧ x ≤ 2147483647) ∧ (-2147483648 ≤ y ∧ y ≤ 2147483647)) :
    px_R 0 233 [.int (zI x), .int (zI y)] h (.inl (some (.int (zI (cmpI x y))))) h := by
  refine px_ofQ fun Q hQ => ?_
  unfold cmpI at hQ
  simp (disch := omega) only [el_J6_compare_7cf53_0, el_J6_compare_7cf53_1, el_J6_compare_7cf53_2, el_J6_compare_7cf53_5, el_J6_compare_7cf53_6, el_J6_compare_7cf53_9, el_J6_compare_7cf53_10, el_J6_compare_7cf53_11, el_J6_compare_7cf53_14, el_J6_compare_7cf53_15, el_J6_compare_7cf53_18, el_J6_compare_7cf53_19]
  by_cases h1 : x < y
  · rw [if_pos h1] at hQ
    rw [if_neg (by omega)]
    exact hQ
  · rw [if_neg h1] at hQ
    rw [if_pos (by omega)]
    by_cases h2 : x = y
    · rw [if_pos h2] at hQ
      rw [if_neg (fun g => g h2)]
      exact hQ
    · rw [if_neg h2] at hQ
      rw [if_pos h2]
      exact hQ
def winC (f : Nat → Int) (s : Int) (x : Nat) : Nat → Int
  | 0 => 0
  | y + 1 => winC f s x y + s * wAt f x y
def winS (f : Nat → Int) (W H : Nat) : Nat → Int
  | 0 => 0
  | x + 1 => winS f W H x + winC f (cmpI (2 * x + 1) W) x H
theorem c_wings {h : pm_H} {q n W H : Nat} {F : Nat → Int} {B : Nat → Nat → Int} (hs : sh h q F B) (ho : sh_ok F n) (hW : (W : Int) = F 2) (hH : (H : Int) = F 3) :
    px_R 1 75 [.ref q, .retAddr 0, .retAddr 0, .retAddr 0, .retAddr 0] h (.inl (some (.int (zI (winS (B 7) W H W))))) h := by
  obtain ⟨s0, s1, s2, s3, s4, s5, s6, s7, s8⟩ := id hs
  obtain ⟨ho0, ho1, ho2, ho3, hn, hn1, hn2⟩ := id ho
  refine px_ofQ fun Q hQ => ?_
  have inner : ∀ (t y x : Nat) (s sd : Int), y + t = H → x < W →
      (∀ l3 l4 : Value, px_Ev 1 75 4 [.ref q, .int (zI (s + winC (B 7) sd x H)), .int (zI ((x : Int) + 1)), l3, l4] [] h Q) →
      px_Ev 1 75 28 [.ref q, .int (zI (s + winC (B 7) sd x y)), .int (zI x), .int (zI sd), .int (zI y)] [] h Q := by
    intro t
    induction t with
    | zero =>
      intro y x s sd hy hx k
      have e : y = H := by omega
      subst e
      simp (disch := omega) only [el_X7_wings_28, el_X7_wings_30, el_X7_wings_31, el_X7_wings_34, s0, gf_7_3, ← hH]
      rw [if_pos (Int.le_refl _)]
      simp (disch := omega) only [el_X7_wings_55, el_X7_wings_58]
      exact k _ _
    | succ t ih =>
      intro y x s sd hy hx k
      simp (disch := omega) only [el_X7_wings_28, el_X7_wings_30, el_X7_wings_31, el_X7_wings_34, s0, gf_7_3, ← hH]
      rw [if_neg (by omega)]
      simp (disch := omega) only [el_X7_wings_37, el_X7_wings_38, el_X7_wings_39, el_X7_wings_40, el_X7_wings_41]
      rw [el_X7_wings_43 (c_weightAt hs (by omega) (by omega)) (by decide) s0 rfl]
      simp (disch := omega) only [Option.toList, List.cons_append, List.nil_append, el_X7_wings_46, el_X7_wings_47, el_X7_wings_48, el_X7_wings_49, el_X7_wings_52]
      rw [Int.add_assoc]
      exact ih (y + 1) x s sd (by omega) hx k
  have outer : ∀ (t x : Nat) (l3 l4 : Value), x + t = W →
      px_Ev 1 75 4 [.ref q, .int (zI (winS (B 7) W H x)), .int (zI x), l3, l4] [] h Q := by
    intro t
    induction t with
    | zero =>
      intro x l3 l4 hx
      have e : x = W := by omega
      subst e
      simp (disch := omega) only [el_X7_wings_4, el_X7_wings_5, el_X7_wings_6, el_X7_wings_9, s0, gf_7_2, ← hW]
      rw [if_pos (Int.le_refl _)]
      simp (disch := omega) only [el_X7_wings_61, el_X7_wings_62]
      exact hQ
    | succ t ih =>
      intro x l3 l4 hx
      simp (disch := omega) only [el_X7_wings_4, el_X7_wings_5, el_X7_wings_6, el_X7_wings_9, s0, gf_7_2, ← hW]
      rw [if_neg (by omega)]
      simp (disch := omega) only [el_X7_wings_12, el_X7_wings_13, el_X7_wings_14, el_X7_wings_15, el_X7_wings_16, el_X7_wings_17, el_X7_wings_18, s0, gf_7_2, ← hW]
      rw [el_X7_wings_21 (c_compare (by omega)) (by decide) rfl]
      simp (disch := omega) only [Option.toList, List.cons_append, List.nil_append, el_X7_wings_24, el_X7_wings_25, el_X7_wings_26]
      have k := inner H 0 x (winS (B 7) W H x) (cmpI (2 * x + 1) W) (by omega) (by omega) (fun l3' l4' => ih (x + 1) l3' l4' (by omega))
      have e : winS (B 7) W H x + winC (B 7) (cmpI (2 * x + 1) W) x 0 = winS (B 7) W H x := Int.add_zero _
      rw [e] at k
      exact k
  simp (disch := omega) only [el_X7_wings_0, el_X7_wings_1, el_X7_wings_2, el_X7_wings_3]
  exact outer W 0 _ _ (by omega)
