/-! FIRST CONTRACTS -/
/-- Arrays.fill(int[], int) -/
theorem c_fill {h : pm_H} {a n : Nat} {f : Nat → Int} {x : Int} (ha : h.1 a = some (aI 0 n f)) (hn : n ≤ 1000) : px_R 0 234 [.ref a, .int (zI x), .retAddr 0, .retAddr 0] h (.inl none) (pm_put h a (aI 0 n (fun j => if j < n then x else f j))) := by
  have loop : ∀ (Q : pm_O → pm_H → Prop), Q (.inl none) (pm_put h a (aI 0 n (fun j => if j < n then x else f j))) → ∀ k i : Nat, i + k = n →
      px_Ev 0 234 5 [.ref a, .int (zI x), .int (zI i), .int (zI n)] [] (pm_put h a (aI 0 n (fun j => if j < i then x else f j))) Q := by
    intro Q hQ k
    induction k with
    | zero =>
      intro i hi
      have e : i = n := by omega
      subst e
      simp (disch := omega) only [el_J7_fill_53178_5, el_J7_fill_53178_6, el_J7_fill_53178_7, el_J7_fill_53178_20]
      rw [if_pos (Int.le_refl _)]
      exact hQ
    | succ k ih =>
      intro i hi
      simp (disch := omega) only [el_J7_fill_53178_5, el_J7_fill_53178_6, el_J7_fill_53178_7]
      rw [if_neg (by omega)]
      simp (disch := omega) only [el_J7_fill_53178_10, el_J7_fill_53178_11, el_J7_fill_53178_12, el_J7_fill_53178_13, el_J7_fill_53178_14, el_J7_fill_53178_17, pm_put_eq, px_as_aI, pm_put_put]
      have := ih (i + 1) (by omega)
      have e : upz (fun j => if j < i then x else f j) (i : Int).toNat x = fun j => if j < i + 1 then x else f j := by
        funext j
        unfold upz
        have : (i : Int).toNat = i := by omega
        rw [this]
        by_cases h1 : j = i
        · simp [h1]
        · by_cases h2 : j < i
          · have : j < i + 1 := by omega
            simp [h1, h2, this]
          · have : ¬ j < i + 1 := by omega
            simp [h1, h2, this]
      rw [e]
      rw [show ((i : Int) + 1) = ((i + 1 : Nat) : Int) by omega]
      exact this
  apply px_of
  simp (disch := omega) only [el_J7_fill_53178_0, el_J7_fill_53178_1, el_J7_fill_53178_2, el_J7_fill_53178_3, el_J7_fill_53178_4, ha, px_ln_aI]
  have := loop (fun o1 h1 => o1 = .inl none ∧ h1 = pm_put h a (aI 0 n (fun j => if j < n then x else f j))) ⟨rfl, rfl⟩ n 0 (by omega)
  have e : (pm_put h a (aI 0 n (fun j => if j < 0 then x else f j))) = h := by
    simp only [Nat.not_lt_zero, if_false]
    exact pm_put_same ha
  rw [e] at this
  exact this
