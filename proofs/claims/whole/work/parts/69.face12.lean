/-! THE FACE, 12: a School as it is read is as it may be -/
def scD (D : Nat → Nat → Int) : Prop := ((1 ≤ D 0 0 ∧ D 0 0 ≤ 8) ∧ (1 ≤ D 0 1 ∧ D 0 1 ≤ 8) ∧ (1 ≤ D 0 2 ∧ D 0 2 ≤ 200) ∧ (1 ≤ D 0 3 ∧ D 0 3 ≤ 200) ∧ (0 ≤ D 0 4 ∧ D 0 4 ≤ 200) ∧ (0 ≤ D 0 5 ∧ D 0 5 ≤ 200)) ∧
  ((∀ k, k < 10 → 0 ≤ D 1 k ∧ D 1 k ≤ 20) ∧ (∀ k, k < 10 → 0 ≤ D 2 k ∧ D 2 k ≤ 20) ∧ (∀ k, k < 10 → -5 ≤ D 3 k ∧ D 3 k ≤ 5) ∧ (∀ k, k < 10 → -5 ≤ D 4 k ∧ D 4 k ≤ 5) ∧ (∀ k, k < 10 → 0 ≤ D 5 k ∧ D 5 k ≤ 99))
theorem upz_rg {f : Nat → Int} {n k : Nat} {lo hi v : Int} (hf : ∀ j, j < n → lo ≤ f j ∧ f j ≤ hi) (hv : lo ≤ v ∧ v ≤ hi) : ∀ j, j < n → lo ≤ upz f k v j ∧ upz f k v j ≤ hi := by
  intro j hj
  unfold upz
  split
  · exact hv
  · exact hf j hj
theorem scD_sheet {b : Nat → Int} {P : pS} (h : scD P.2.1) : scD (rdSheet b P).2.1 := ⟨⟨nhV_r (by decide), nhV_r (by decide), h.1.2.2⟩, h.2⟩
theorem scD_tower {b : Nat → Int} {P : pS} (h : scD P.2.1) : scD (rdTower b P).2.1 := ⟨⟨h.1.1, h.1.2.1, nhV_r (by decide), h.1.2.2.2⟩, h.2⟩
theorem scD_window {b : Nat → Int} {P : pS} (h : scD P.2.1) : scD (rdWindow b P).2.1 := by
  have h1 := nhV_r (lo := 0) (hi := 200) (F := tnF b 1 200 (adv b (r3F (P.2.2 0 2) P.1))) (by decide)
  refine ⟨⟨h.1.1, h.1.2.1, h.1.2.2.1, nhV_r (by decide), h1, ?_⟩, h.2⟩
  have h2 := nhV_r (lo := nhV 0 200 (tnF b 1 200 (adv b (r3F (P.2.2 0 2) P.1)))) (hi := 200) (F := tnF b 0 200 (tnF b 1 200 (adv b (r3F (P.2.2 0 2) P.1)))) h1.2
  exact ⟨Int.le_trans h1.1 h2.1, h2.2⟩
theorem scD_table {b : Nat → Int} {P : pS} (h : scD P.2.1) : scD (rdTable b P).2.1 := ⟨h.1, upz_rg h.2.1 (nhV_r (by decide)), upz_rg h.2.2.1 (nhV_r (by decide)), h.2.2.2⟩
theorem scD_wind {b : Nat → Int} {P : pS} (h : scD P.2.1) : scD (rdWind b P).2.1 := by
  refine ⟨h.1, h.2.1, h.2.2.1, upz_rg h.2.2.2.1 (tgV_r (by decide)), upz_rg h.2.2.2.2.1 (tgV_r (by decide)), upz_rg h.2.2.2.2.2 ?_⟩
  split
  · exact nhV_r (by decide)
  · decide
theorem scD_known {b : Nat → Int} {P : pS} (h : scD P.2.1) : scD (rdKnown b P).2.1 := by
  have : ∀ x y, scD (adK P.2.1 x y) := fun x y => by
    unfold adK
    split
    · exact h
    · exact h
  exact this _ _
theorem scD_one {b : Nat → Int} {P : pS} (h : scD P.2.1) : scD (rdOne b P).2.1 := by
  unfold rdOne
  split
  · exact scD_sheet h
  split
  · exact scD_table h
  split
  · exact scD_wind h
  split
  · exact scD_tower h
  split
  · exact scD_window h
  split
  · exact scD_known h
  · exact h
theorem scD_lines {b : Nat → Int} : ∀ (k : Nat) (P : pS), pO P → scD P.2.1 → pO (rdLines b k P) ∧ scD (rdLines b k P).2.1
  | 0, P, h, g => ⟨h, g⟩
  | k + 1, P, h, g => by
    unfold rdLines
    split
    · refine scD_lines k (rdLine b P) (pO_line h) ?_
      rw [rdLine_eq]
      exact scD_one g
    · exact ⟨h, g⟩
theorem scD_init {P : pS} : scD (rdInit P).2.1 := by
  have e : ∀ {j : Nat} {a b : Int}, j < 10 → (if j < 10 then a else b) = a := fun h => if_pos h
  refine ⟨⟨by change (1 : Int) ≤ 4 ∧ (4 : Int) ≤ 8; decide, by change (1 : Int) ≤ 6 ∧ (6 : Int) ≤ 8; decide, by change (1 : Int) ≤ 30 ∧ (30 : Int) ≤ 200; decide, by change (1 : Int) ≤ 20 ∧ (20 : Int) ≤ 200; decide, by change (0 : Int) ≤ 0 ∧ (0 : Int) ≤ 200; decide, by change (0 : Int) ≤ 30 ∧ (30 : Int) ≤ 200; decide⟩, fun k hk => ?_, fun k hk => ?_, fun k hk => ?_, fun k hk => ?_, fun k hk => ?_⟩
  · change 0 ≤ unfF (P.2.1 1) 10 k ∧ unfF (P.2.1 1) 10 k ≤ 20
    unfold unfF
    rw [e hk]
    omega
  · change 0 ≤ unfS (P.2.1 2) 10 k ∧ unfS (P.2.1 2) 10 k ≤ 20
    unfold unfS
    rw [e hk]
    have : 0 ≤ ab ((k : Int) - 6) ∧ ab ((k : Int) - 6) ≤ 6 := by
      unfold ab
      split <;> omega
    omega
  · change -5 ≤ filS (P.2.1 3) 0 k ∧ filS (P.2.1 3) 0 k ≤ 5
    unfold filS
    rw [e hk]
    decide
  · change -5 ≤ filS (P.2.1 4) 0 k ∧ filS (P.2.1 4) 0 k ≤ 5
    unfold filS
    rw [e hk]
    decide
  · change 0 ≤ filS (P.2.1 5) 1 k ∧ filS (P.2.1 5) 1 k ≤ 99
    unfold filS
    rw [e hk]
    decide
theorem rdAll_ok {b : Nat → Int} {P : pS} (h : tpF P.1) : tpF (rdAll b P).1 ∧ ∀ (S : Nat → Nat → Int) (s : Nat), (∀ k, k < 8 → S (s + k) = (rdAll b P).2.1 k) → scOk S s := by
  obtain ⟨p, q⟩ := scD_lines (b := b) 500 (rdInit P) (pO_init h) scD_init
  unfold rdAll
  generalize rdLines b 500 (rdInit P) = R at *
  refine ⟨?_, fun S s e => ?_⟩
  · unfold rdUsual
    split
    · exact p.1
    · exact p.1
  · have e0 := e 0 (by decide)
    rw [Nat.add_zero] at e0
    unfold rdUsual at e0 e
    unfold scOk
    by_cases g : R.2.1 0 6 = 0
    · rw [if_pos g] at e0
      have e' : ∀ k, k < 8 → S (s + k) = (fun k => if k = 0 then upz (R.2.1 0) 6 8 else if k = 6 then usK (R.2.1 6) (fun j => ((j / 2 : Nat) : Int)) else if k = 7 then usK (R.2.1 7) (fun j => ((1 + j % 2 : Nat) : Int)) else R.2.1 k) k := fun k hk => by
        have := e k hk
        rw [if_pos g] at this
        exact this
      refine ⟨?_, fun k hk => ?_, fun k hk => ?_⟩
      · rw [e0]
        obtain ⟨a1, a2, a3, a4, a5, a6⟩ := q.1
        exact ⟨a1, a2, a3, a4, a5, a6, by change (1 : Int) ≤ 8 ∧ (8 : Int) ≤ 10; decide⟩
      · rw [e' 1 (by decide), e' 2 (by decide), e' 3 (by decide), e' 4 (by decide), e' 5 (by decide)]
        exact ⟨q.2.1 k hk, q.2.2.1 k hk, q.2.2.2.1 k hk, q.2.2.2.2.1 k hk, q.2.2.2.2.2 k hk⟩
      · rw [e0] at hk
        replace hk : (k : Int) < 8 := hk
        rw [e' 6 (by decide), e' 7 (by decide)]
        change (0 ≤ usK (R.2.1 6) (fun j => ((j / 2 : Nat) : Int)) k ∧ usK (R.2.1 6) (fun j => ((j / 2 : Nat) : Int)) k ≤ 3) ∧ 1 ≤ usK (R.2.1 7) (fun j => ((1 + j % 2 : Nat) : Int)) k ∧ usK (R.2.1 7) (fun j => ((1 + j % 2 : Nat) : Int)) k ≤ 4
        unfold usK
        rw [if_pos (by omega), if_pos (by omega)]
        dsimp only
        omega
    · rw [if_neg g] at e0
      have e' : ∀ k, k < 8 → S (s + k) = R.2.1 k := fun k hk => by
        have := e k hk
        rw [if_neg g] at this
        exact this
      refine ⟨?_, fun k hk => ?_, fun k hk => ?_⟩
      · rw [e0]
        obtain ⟨a1, a2, a3, a4, a5, a6⟩ := q.1
        have := p.2.1
        exact ⟨a1, a2, a3, a4, a5, a6, by omega⟩
      · rw [e' 1 (by decide), e' 2 (by decide), e' 3 (by decide), e' 4 (by decide), e' 5 (by decide)]
        exact ⟨q.2.1 k hk, q.2.2.1 k hk, q.2.2.2.1 k hk, q.2.2.2.2.1 k hk, q.2.2.2.2.2 k hk⟩
      · rw [e0] at hk
        rw [e' 6 (by decide), e' 7 (by decide)]
        exact p.2.2.1 k hk
