/-! A SHEET, 8: nosiness -/
def rowS (f : Nat → Int) (y : Nat) : Nat → Int
  | 0 => 0
  | x + 1 => rowS f y x + wAt f x y * y
def nosS (f : Nat → Int) (W : Nat) : Nat → Int
  | 0 => 0
  | y + 1 => nosS f W y + rowS f y W
theorem c_nosiness {h : pm_H} {q n W H : Nat} {F : Nat → Int} {B : Nat → Nat → Int} (hs : sh h q F B) (ho : sh_ok F n) (hW : (W : Int) = F 2) (hH : (H : Int) = F 3) (hsum : 0 ≤ nosS (B 7) W H ∧ nosS (B 7) W H ≤ 1000000) (hdv : (n : Int) * (F 3 - 1) ≤ 1000000) :
    px_R 1 74 [.ref q, .retAddr 0, .retAddr 0, .retAddr 0, .retAddr 0] h (.inl (some (.int (zI (if (n : Int) * (F 3 - 1) < 1 then 0 else 9 - 9 * nosS (B 7) W H / ((n : Int) * (F 3 - 1))))))) h := by
  obtain ⟨s0, s1, s2, s3, s4, s5, s6, s7, s8⟩ := id hs
  obtain ⟨ho0, ho1, ho2, ho3, hn, hn1, hn2⟩ := id ho
  have hd0 : 0 ≤ (n : Int) * (F 3 - 1) := Int.mul_nonneg (by omega) (by omega)
  refine px_ofQ fun Q hQ => ?_
  simp (disch := omega) only [el_X7_nosiness_0]
  rw [el_X7_nosiness_1 (c_cells hs ho) (by decide) s0 rfl]
  simp (disch := omega) only [Option.toList, List.cons_append, List.nil_append, el_X7_nosiness_4, el_X7_nosiness_5, el_X7_nosiness_8, el_X7_nosiness_9, el_X7_nosiness_10, el_X7_nosiness_11, el_X7_nosiness_12, el_X7_nosiness_13, el_X7_nosiness_14, s0, gf_7_3]
  generalize hD : (n : Int) * (F 3 - 1) = D at *
  by_cases hD1 : D < 1
  · rw [if_neg (by omega)]
    rw [if_pos hD1] at hQ
    simp (disch := omega) only [el_X7_nosiness_17, el_X7_nosiness_18]
    exact hQ
  rw [if_pos (by omega)]
  rw [if_neg hD1] at hQ
  have inner : ∀ (t x y : Nat) (s : Int), x + t = W → y < H →
      (∀ l4 : Value, px_Ev 1 74 23 [.ref q, .int (zI D), .int (zI (s + rowS (B 7) y W)), .int (zI ((y : Int) + 1)), l4] [] h Q) →
      px_Ev 1 74 34 [.ref q, .int (zI D), .int (zI (s + rowS (B 7) y x)), .int (zI y), .int (zI x)] [] h Q := by
    intro t
    induction t with
    | zero =>
      intro x y s hx hy k
      have e : x = W := by omega
      subst e
      simp (disch := omega) only [el_X7_nosiness_34, el_X7_nosiness_36, el_X7_nosiness_37, el_X7_nosiness_40, s0, gf_7_2, ← hW]
      rw [if_pos (Int.le_refl _)]
      simp (disch := omega) only [el_X7_nosiness_61, el_X7_nosiness_64]
      exact k _
    | succ t ih =>
      intro x y s hx hy k
      simp (disch := omega) only [el_X7_nosiness_34, el_X7_nosiness_36, el_X7_nosiness_37, el_X7_nosiness_40, s0, gf_7_2, ← hW]
      rw [if_neg (by omega)]
      simp (disch := omega) only [el_X7_nosiness_43, el_X7_nosiness_44, el_X7_nosiness_45, el_X7_nosiness_47]
      rw [el_X7_nosiness_48 (c_weightAt hs (by omega) (by omega)) (by decide) s0 rfl]
      simp (disch := omega) only [Option.toList, List.cons_append, List.nil_append, el_X7_nosiness_51, el_X7_nosiness_52, el_X7_nosiness_53, el_X7_nosiness_54, el_X7_nosiness_55, el_X7_nosiness_58]
      rw [Int.add_assoc]
      exact ih (x + 1) y s (by omega) hy k
  have outer : ∀ (t y : Nat) (l4 : Value), y + t = H →
      px_Ev 1 74 23 [.ref q, .int (zI D), .int (zI (nosS (B 7) W y)), .int (zI y), l4] [] h Q := by
    intro t
    induction t with
    | zero =>
      intro y l4 hy
      have e : y = H := by omega
      subst e
      simp (disch := omega) only [el_X7_nosiness_23, el_X7_nosiness_24, el_X7_nosiness_25, el_X7_nosiness_28, s0, gf_7_3, ← hH]
      rw [if_pos (Int.le_refl _)]
      have hz : ¬ zI D = 0 := by
        rw [zI_0, zI_eq (by omega)]
        omega
      simp (disch := first | omega | exact hz) only [el_X7_nosiness_67, el_X7_nosiness_69, el_X7_nosiness_71, el_X7_nosiness_72, el_X7_nosiness_73, el_X7_nosiness_74, el_X7_nosiness_75, el_X7_nosiness_76, zI_div, zI_sub]
      exact hQ
    | succ t ih =>
      intro y l4 hy
      simp (disch := omega) only [el_X7_nosiness_23, el_X7_nosiness_24, el_X7_nosiness_25, el_X7_nosiness_28, s0, gf_7_3, ← hH]
      rw [if_neg (by omega)]
      simp (disch := omega) only [el_X7_nosiness_31, el_X7_nosiness_32]
      have k := inner W 0 y (nosS (B 7) W y) (by omega) (by omega) (fun l4' => ih (y + 1) l4' (by omega))
      have e : nosS (B 7) W y + rowS (B 7) y 0 = nosS (B 7) W y := Int.add_zero _
      rw [e] at k
      exact k
  simp (disch := omega) only [el_X7_nosiness_19, el_X7_nosiness_20, el_X7_nosiness_21, el_X7_nosiness_22]
  exact outer H 0 _ (by omega)
