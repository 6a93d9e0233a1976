/-! CONSTRUCTORS, 11: the Model's arrays in groups -/
section MAKE
variable {T : Nat → Nat × Nat} {S : Nat → Nat → Int} {c : pm_M × pm_C} {q : Nat}
def cg0 (c : pm_M × pm_C) : pm_M × pm_C := (nc (nc (nc (nc (nc (nc c 20) 20) 20) 20) 20) 20)
theorem cg0_g {c : pm_M × pm_C} : (cg0 c).1.1 = c.1.1 := by
  unfold cg0
  simp only [nc_g]
theorem cg0_s {c : pm_M × pm_C} : (cg0 c).1.2.1 = c.1.2.1 + 6 := by
  unfold cg0
  simp only [nc_s]
theorem x11_g0 (hT : T q = (51, 0)) (hg : c.1.1 = 0) (hs : c.1.2.1 = q + 3) : ∃ T' S', (∀ Q, px_Ev 3 133 162 [.ref q] [] (zh T' S' (cg0 c)) Q → px_Ev 3 133 114 [.ref q] [] (zh T S c) Q) ∧ (∀ a, a ≠ q → (a < q + 3 ∨ q + 9 ≤ a) → T' a = T a ∧ S' a = S a) ∧ T' q = (51, 0) ∧ S' q = upz (upz (upz (upz (upz (upz (S q) 3 ((q + 3 : Nat) : Int)) 4 ((q + 4 : Nat) : Int)) 5 ((q + 5 : Nat) : Int)) 6 ((q + 6 : Nat) : Int)) 7 ((q + 7 : Nat) : Int)) 8 ((q + 8 : Nat) : Int) ∧ T' (q + 3) = (20, 20) ∧ T' (q + 4) = (20, 20) ∧ T' (q + 5) = (20, 20) ∧ T' (q + 6) = (20, 20) ∧ T' (q + 7) = (20, 20) ∧ T' (q + 8) = (20, 20) := by
  obtain ⟨T1, S1, rn0, fr0, tq0, eq0, ta0, za0⟩ := x11_0 (T := T) (S := S) (c := c) (q := q) hT hg hs
  obtain ⟨Y1, hY1⟩ : ∃ X, nc c 20 = X := ⟨_, rfl⟩
  rw [hY1] at rn0
  have gY1 : Y1.1.1 = 0 := by rw [← hY1, nc_g]; exact hg
  have sY1 : Y1.1.2.1 = q + 4 := by rw [← hY1, nc_s, hs]
  obtain ⟨T2, S2, rn1, fr1, tq1, eq1, ta1, za1⟩ := x11_1 (T := T1) (S := S1) (c := Y1) (q := q) tq0 gY1 sY1
  obtain ⟨Y2, hY2⟩ : ∃ X, nc Y1 20 = X := ⟨_, rfl⟩
  rw [hY2] at rn1
  have gY2 : Y2.1.1 = 0 := by rw [← hY2, nc_g]; exact gY1
  have sY2 : Y2.1.2.1 = q + 5 := by rw [← hY2, nc_s, sY1]
  obtain ⟨T3, S3, rn2, fr2, tq2, eq2, ta2, za2⟩ := x11_2 (T := T2) (S := S2) (c := Y2) (q := q) tq1 gY2 sY2
  obtain ⟨Y3, hY3⟩ : ∃ X, nc Y2 20 = X := ⟨_, rfl⟩
  rw [hY3] at rn2
  have gY3 : Y3.1.1 = 0 := by rw [← hY3, nc_g]; exact gY2
  have sY3 : Y3.1.2.1 = q + 6 := by rw [← hY3, nc_s, sY2]
  obtain ⟨T4, S4, rn3, fr3, tq3, eq3, ta3, za3⟩ := x11_3 (T := T3) (S := S3) (c := Y3) (q := q) tq2 gY3 sY3
  obtain ⟨Y4, hY4⟩ : ∃ X, nc Y3 20 = X := ⟨_, rfl⟩
  rw [hY4] at rn3
  have gY4 : Y4.1.1 = 0 := by rw [← hY4, nc_g]; exact gY3
  have sY4 : Y4.1.2.1 = q + 7 := by rw [← hY4, nc_s, sY3]
  obtain ⟨T5, S5, rn4, fr4, tq4, eq4, ta4, za4⟩ := x11_4 (T := T4) (S := S4) (c := Y4) (q := q) tq3 gY4 sY4
  obtain ⟨Y5, hY5⟩ : ∃ X, nc Y4 20 = X := ⟨_, rfl⟩
  rw [hY5] at rn4
  have gY5 : Y5.1.1 = 0 := by rw [← hY5, nc_g]; exact gY4
  have sY5 : Y5.1.2.1 = q + 8 := by rw [← hY5, nc_s, sY4]
  obtain ⟨T6, S6, rn5, fr5, tq5, eq5, ta5, za5⟩ := x11_5 (T := T5) (S := S5) (c := Y5) (q := q) tq4 gY5 sY5
  obtain ⟨Y6, hY6⟩ : ∃ X, nc Y5 20 = X := ⟨_, rfl⟩
  rw [hY6] at rn5
  have gY6 : Y6.1.1 = 0 := by rw [← hY6, nc_g]; exact gY5
  have sY6 : Y6.1.2.1 = q + 9 := by rw [← hY6, nc_s, sY5]
  have hc : cg0 c = Y6 := by
    unfold cg0
    rw [hY1, hY2, hY3, hY4, hY5, hY6]
  rw [hc]
  clear gY1 sY1 gY2 sY2 gY3 sY3 gY4 sY4 gY5 sY5 gY6 sY6
  refine ⟨T6, S6, fun Q hQ => rn0 Q (rn1 Q (rn2 Q (rn3 Q (rn4 Q (rn5 Q (hQ)))))), fun a h1 h2 => ⟨?_, ?_⟩, tq5, by rw [eq5, eq4, eq3, eq2, eq1, eq0], by rw [(fr5 _ (by omega) (by omega)).1, (fr4 _ (by omega) (by omega)).1, (fr3 _ (by omega) (by omega)).1, (fr2 _ (by omega) (by omega)).1, (fr1 _ (by omega) (by omega)).1, ta0], by rw [(fr5 _ (by omega) (by omega)).1, (fr4 _ (by omega) (by omega)).1, (fr3 _ (by omega) (by omega)).1, (fr2 _ (by omega) (by omega)).1, ta1], by rw [(fr5 _ (by omega) (by omega)).1, (fr4 _ (by omega) (by omega)).1, (fr3 _ (by omega) (by omega)).1, ta2], by rw [(fr5 _ (by omega) (by omega)).1, (fr4 _ (by omega) (by omega)).1, ta3], by rw [(fr5 _ (by omega) (by omega)).1, ta4], by rw [ta5]⟩
  · rw [(fr5 a h1 (by omega)).1, (fr4 a h1 (by omega)).1, (fr3 a h1 (by omega)).1, (fr2 a h1 (by omega)).1, (fr1 a h1 (by omega)).1, (fr0 a h1 (by omega)).1]
  · rw [(fr5 a h1 (by omega)).2, (fr4 a h1 (by omega)).2, (fr3 a h1 (by omega)).2, (fr2 a h1 (by omega)).2, (fr1 a h1 (by omega)).2, (fr0 a h1 (by omega)).2]
def cg1 (c : pm_M × pm_C) : pm_M × pm_C := (nc (nc (nc (nc (nc c 3) 500) 500) 2) 2)
theorem cg1_g {c : pm_M × pm_C} : (cg1 c).1.1 = c.1.1 := by
  unfold cg1
  simp only [nc_g]
theorem cg1_s {c : pm_M × pm_C} : (cg1 c).1.2.1 = c.1.2.1 + 5 := by
  unfold cg1
  simp only [nc_s]
theorem x11_g1 (hT : T q = (51, 0)) (hg : c.1.1 = 0) (hs : c.1.2.1 = q + 9) : ∃ T' S', (∀ Q, px_Ev 3 133 206 [.ref q] [] (zh T' S' (cg1 c)) Q → px_Ev 3 133 162 [.ref q] [] (zh T S c) Q) ∧ (∀ a, a ≠ q → (a < q + 9 ∨ q + 14 ≤ a) → T' a = T a ∧ S' a = S a) ∧ T' q = (51, 0) ∧ S' q = upz (upz (upz (upz (upz (upz (S q) 9 ((q + 9 : Nat) : Int)) 10 ((q + 10 : Nat) : Int)) 20 (-1)) 23 ((q + 11 : Nat) : Int)) 24 ((q + 12 : Nat) : Int)) 25 ((q + 13 : Nat) : Int) ∧ T' (q + 9) = (20, 3) ∧ T' (q + 10) = (20, 500) ∧ T' (q + 11) = (20, 500) ∧ T' (q + 12) = (20, 2) ∧ T' (q + 13) = (20, 2) ∧ S' (q + 9) = (fun _ => 0) ∧ S' (q + 10) = (fun _ => 0) := by
  obtain ⟨T1, S1, rn6, fr6, tq6, eq6, ta6, za6⟩ := x11_6 (T := T) (S := S) (c := c) (q := q) hT hg hs
  obtain ⟨Y1, hY1⟩ : ∃ X, nc c 3 = X := ⟨_, rfl⟩
  rw [hY1] at rn6
  have gY1 : Y1.1.1 = 0 := by rw [← hY1, nc_g]; exact hg
  have sY1 : Y1.1.2.1 = q + 10 := by rw [← hY1, nc_s, hs]
  obtain ⟨T2, S2, rn7, fr7, tq7, eq7, ta7, za7⟩ := x11_7 (T := T1) (S := S1) (c := Y1) (q := q) tq6 gY1 sY1
  obtain ⟨Y2, hY2⟩ : ∃ X, nc Y1 500 = X := ⟨_, rfl⟩
  rw [hY2] at rn7
  have gY2 : Y2.1.1 = 0 := by rw [← hY2, nc_g]; exact gY1
  have sY2 : Y2.1.2.1 = q + 11 := by rw [← hY2, nc_s, sY1]
  obtain ⟨S3, rn8, fr8, eq8⟩ := x11_8 (T := T2) (S := S2) (c := Y2) (q := q) tq7
  obtain ⟨T3, S4, rn9, fr9, tq9, eq9, ta9, za9⟩ := x11_9 (T := T2) (S := S3) (c := Y2) (q := q) tq7 gY2 sY2
  obtain ⟨Y3, hY3⟩ : ∃ X, nc Y2 500 = X := ⟨_, rfl⟩
  rw [hY3] at rn9
  have gY3 : Y3.1.1 = 0 := by rw [← hY3, nc_g]; exact gY2
  have sY3 : Y3.1.2.1 = q + 12 := by rw [← hY3, nc_s, sY2]
  obtain ⟨T4, S5, rn10, fr10, tq10, eq10, ta10, za10⟩ := x11_10 (T := T3) (S := S4) (c := Y3) (q := q) tq9 gY3 sY3
  obtain ⟨Y4, hY4⟩ : ∃ X, nc Y3 2 = X := ⟨_, rfl⟩
  rw [hY4] at rn10
  have gY4 : Y4.1.1 = 0 := by rw [← hY4, nc_g]; exact gY3
  have sY4 : Y4.1.2.1 = q + 13 := by rw [← hY4, nc_s, sY3]
  obtain ⟨T5, S6, rn11, fr11, tq11, eq11, ta11, za11⟩ := x11_11 (T := T4) (S := S5) (c := Y4) (q := q) tq10 gY4 sY4
  obtain ⟨Y5, hY5⟩ : ∃ X, nc Y4 2 = X := ⟨_, rfl⟩
  rw [hY5] at rn11
  have gY5 : Y5.1.1 = 0 := by rw [← hY5, nc_g]; exact gY4
  have sY5 : Y5.1.2.1 = q + 14 := by rw [← hY5, nc_s, sY4]
  have hc : cg1 c = Y5 := by
    unfold cg1
    rw [hY1, hY2, hY3, hY4, hY5]
  rw [hc]
  clear gY1 sY1 gY2 sY2 gY3 sY3 gY4 sY4 gY5 sY5
  refine ⟨T5, S6, fun Q hQ => rn6 Q (rn7 Q (rn8 Q (rn9 Q (rn10 Q (rn11 Q (hQ)))))), fun a h1 h2 => ⟨?_, ?_⟩, tq11, by rw [eq11, eq10, eq9, eq8, eq7, eq6], by rw [(fr11 _ (by omega) (by omega)).1, (fr10 _ (by omega) (by omega)).1, (fr9 _ (by omega) (by omega)).1, (fr7 _ (by omega) (by omega)).1, ta6], by rw [(fr11 _ (by omega) (by omega)).1, (fr10 _ (by omega) (by omega)).1, (fr9 _ (by omega) (by omega)).1, ta7], by rw [(fr11 _ (by omega) (by omega)).1, (fr10 _ (by omega) (by omega)).1, ta9], by rw [(fr11 _ (by omega) (by omega)).1, ta10], by rw [ta11], by rw [(fr11 _ (by omega) (by omega)).2, (fr10 _ (by omega) (by omega)).2, (fr9 _ (by omega) (by omega)).2, fr8 _ (by omega), (fr7 _ (by omega) (by omega)).2, za6], by rw [(fr11 _ (by omega) (by omega)).2, (fr10 _ (by omega) (by omega)).2, (fr9 _ (by omega) (by omega)).2, fr8 _ (by omega), za7]⟩
  · rw [(fr11 a h1 (by omega)).1, (fr10 a h1 (by omega)).1, (fr9 a h1 (by omega)).1, (fr7 a h1 (by omega)).1, (fr6 a h1 (by omega)).1]
  · rw [(fr11 a h1 (by omega)).2, (fr10 a h1 (by omega)).2, (fr9 a h1 (by omega)).2, fr8 a h1, (fr7 a h1 (by omega)).2, (fr6 a h1 (by omega)).2]
def cg2 (c : pm_M × pm_C) : pm_M × pm_C := (nc (nc (nc (nc (nc (nc c 128) 128) 128) 128) 128) 128)
theorem cg2_g {c : pm_M × pm_C} : (cg2 c).1.1 = c.1.1 := by
  unfold cg2
  simp only [nc_g]
theorem cg2_s {c : pm_M × pm_C} : (cg2 c).1.2.1 = c.1.2.1 + 6 := by
  unfold cg2
  simp only [nc_s]
theorem x11_g2 (hT : T q = (51, 0)) (hg : c.1.1 = 0) (hs : c.1.2.1 = q + 14) : ∃ T' S', (∀ Q, px_Ev 3 133 260 [.ref q] [] (zh T' S' (cg2 c)) Q → px_Ev 3 133 206 [.ref q] [] (zh T S c) Q) ∧ (∀ a, a ≠ q → (a < q + 14 ∨ q + 20 ≤ a) → T' a = T a ∧ S' a = S a) ∧ T' q = (51, 0) ∧ S' q = upz (upz (upz (upz (upz (upz (S q) 26 ((q + 14 : Nat) : Int)) 27 ((q + 15 : Nat) : Int)) 28 ((q + 16 : Nat) : Int)) 29 ((q + 17 : Nat) : Int)) 30 ((q + 18 : Nat) : Int)) 31 ((q + 19 : Nat) : Int) ∧ T' (q + 14) = (20, 128) ∧ T' (q + 15) = (20, 128) ∧ T' (q + 16) = (20, 128) ∧ T' (q + 17) = (20, 128) ∧ T' (q + 18) = (20, 128) ∧ T' (q + 19) = (20, 128) := by
  obtain ⟨T1, S1, rn12, fr12, tq12, eq12, ta12, za12⟩ := x11_12 (T := T) (S := S) (c := c) (q := q) hT hg hs
  obtain ⟨Y1, hY1⟩ : ∃ X, nc c 128 = X := ⟨_, rfl⟩
  rw [hY1] at rn12
  have gY1 : Y1.1.1 = 0 := by rw [← hY1, nc_g]; exact hg
  have sY1 : Y1.1.2.1 = q + 15 := by rw [← hY1, nc_s, hs]
  obtain ⟨T2, S2, rn13, fr13, tq13, eq13, ta13, za13⟩ := x11_13 (T := T1) (S := S1) (c := Y1) (q := q) tq12 gY1 sY1
  obtain ⟨Y2, hY2⟩ : ∃ X, nc Y1 128 = X := ⟨_, rfl⟩
  rw [hY2] at rn13
  have gY2 : Y2.1.1 = 0 := by rw [← hY2, nc_g]; exact gY1
  have sY2 : Y2.1.2.1 = q + 16 := by rw [← hY2, nc_s, sY1]
  obtain ⟨T3, S3, rn14, fr14, tq14, eq14, ta14, za14⟩ := x11_14 (T := T2) (S := S2) (c := Y2) (q := q) tq13 gY2 sY2
  obtain ⟨Y3, hY3⟩ : ∃ X, nc Y2 128 = X := ⟨_, rfl⟩
  rw [hY3] at rn14
  have gY3 : Y3.1.1 = 0 := by rw [← hY3, nc_g]; exact gY2
  have sY3 : Y3.1.2.1 = q + 17 := by rw [← hY3, nc_s, sY2]
  obtain ⟨T4, S4, rn15, fr15, tq15, eq15, ta15, za15⟩ := x11_15 (T := T3) (S := S3) (c := Y3) (q := q) tq14 gY3 sY3
  obtain ⟨Y4, hY4⟩ : ∃ X, nc Y3 128 = X := ⟨_, rfl⟩
  rw [hY4] at rn15
  have gY4 : Y4.1.1 = 0 := by rw [← hY4, nc_g]; exact gY3
  have sY4 : Y4.1.2.1 = q + 18 := by rw [← hY4, nc_s, sY3]
  obtain ⟨T5, S5, rn16, fr16, tq16, eq16, ta16, za16⟩ := x11_16 (T := T4) (S := S4) (c := Y4) (q := q) tq15 gY4 sY4
  obtain ⟨Y5, hY5⟩ : ∃ X, nc Y4 128 = X := ⟨_, rfl⟩
  rw [hY5] at rn16
  have gY5 : Y5.1.1 = 0 := by rw [← hY5, nc_g]; exact gY4
  have sY5 : Y5.1.2.1 = q + 19 := by rw [← hY5, nc_s, sY4]
  obtain ⟨T6, S6, rn17, fr17, tq17, eq17, ta17, za17⟩ := x11_17 (T := T5) (S := S5) (c := Y5) (q := q) tq16 gY5 sY5
  obtain ⟨Y6, hY6⟩ : ∃ X, nc Y5 128 = X := ⟨_, rfl⟩
  rw [hY6] at rn17
  have gY6 : Y6.1.1 = 0 := by rw [← hY6, nc_g]; exact gY5
  have sY6 : Y6.1.2.1 = q + 20 := by rw [← hY6, nc_s, sY5]
  have hc : cg2 c = Y6 := by
    unfold cg2
    rw [hY1, hY2, hY3, hY4, hY5, hY6]
  rw [hc]
  clear gY1 sY1 gY2 sY2 gY3 sY3 gY4 sY4 gY5 sY5 gY6 sY6
  refine ⟨T6, S6, fun Q hQ => rn12 Q (rn13 Q (rn14 Q (rn15 Q (rn16 Q (rn17 Q (hQ)))))), fun a h1 h2 => ⟨?_, ?_⟩, tq17, by rw [eq17, eq16, eq15, eq14, eq13, eq12], by rw [(fr17 _ (by omega) (by omega)).1, (fr16 _ (by omega) (by omega)).1, (fr15 _ (by omega) (by omega)).1, (fr14 _ (by omega) (by omega)).1, (fr13 _ (by omega) (by omega)).1, ta12], by rw [(fr17 _ (by omega) (by omega)).1, (fr16 _ (by omega) (by omega)).1, (fr15 _ (by omega) (by omega)).1, (fr14 _ (by omega) (by omega)).1, ta13], by rw [(fr17 _ (by omega) (by omega)).1, (fr16 _ (by omega) (by omega)).1, (fr15 _ (by omega) (by omega)).1, ta14], by rw [(fr17 _ (by omega) (by omega)).1, (fr16 _ (by omega) (by omega)).1, ta15], by rw [(fr17 _ (by omega) (by omega)).1, ta16], by rw [ta17]⟩
  · rw [(fr17 a h1 (by omega)).1, (fr16 a h1 (by omega)).1, (fr15 a h1 (by omega)).1, (fr14 a h1 (by omega)).1, (fr13 a h1 (by omega)).1, (fr12 a h1 (by omega)).1]
  · rw [(fr17 a h1 (by omega)).2, (fr16 a h1 (by omega)).2, (fr15 a h1 (by omega)).2, (fr14 a h1 (by omega)).2, (fr13 a h1 (by omega)).2, (fr12 a h1 (by omega)).2]
def cg3 (c : pm_M × pm_C) : pm_M × pm_C := (nc (nc (nc (nc (nc c 64) 64) 16) 4) 4)
theorem cg3_g {c : pm_M × pm_C} : (cg3 c).1.1 = c.1.1 := by
  unfold cg3
  simp only [nc_g]
theorem cg3_s {c : pm_M × pm_C} : (cg3 c).1.2.1 = c.1.2.1 + 5 := by
  unfold cg3
  simp only [nc_s]
theorem x11_g3 (hT : T q = (51, 0)) (hg : c.1.1 = 0) (hs : c.1.2.1 = q + 20) : ∃ T' S', (∀ Q, px_Ev 3 133 303 [.ref q] [] (zh T' S' (cg3 c)) Q → px_Ev 3 133 260 [.ref q] [] (zh T S c) Q) ∧ (∀ a, a ≠ q → (a < q + 20 ∨ q + 25 ≤ a) → T' a = T a ∧ S' a = S a) ∧ T' q = (51, 0) ∧ S' q = upz (upz (upz (upz (upz (upz (S q) 32 ((q + 20 : Nat) : Int)) 33 ((q + 21 : Nat) : Int)) 34 ((q + 22 : Nat) : Int)) 42 ((q + 23 : Nat) : Int)) 43 ((q + 24 : Nat) : Int)) 45 (-1) ∧ T' (q + 20) = (20, 64) ∧ T' (q + 21) = (20, 64) ∧ T' (q + 22) = (20, 16) ∧ T' (q + 23) = (20, 4) ∧ T' (q + 24) = (20, 4) := by
  obtain ⟨T1, S1, rn18, fr18, tq18, eq18, ta18, za18⟩ := x11_18 (T := T) (S := S) (c := c) (q := q) hT hg hs
  obtain ⟨Y1, hY1⟩ : ∃ X, nc c 64 = X := ⟨_, rfl⟩
  rw [hY1] at rn18
  have gY1 : Y1.1.1 = 0 := by rw [← hY1, nc_g]; exact hg
  have sY1 : Y1.1.2.1 = q + 21 := by rw [← hY1, nc_s, hs]
  obtain ⟨T2, S2, rn19, fr19, tq19, eq19, ta19, za19⟩ := x11_19 (T := T1) (S := S1) (c := Y1) (q := q) tq18 gY1 sY1
  obtain ⟨Y2, hY2⟩ : ∃ X, nc Y1 64 = X := ⟨_, rfl⟩
  rw [hY2] at rn19
  have gY2 : Y2.1.1 = 0 := by rw [← hY2, nc_g]; exact gY1
  have sY2 : Y2.1.2.1 = q + 22 := by rw [← hY2, nc_s, sY1]
  obtain ⟨T3, S3, rn20, fr20, tq20, eq20, ta20, za20⟩ := x11_20 (T := T2) (S := S2) (c := Y2) (q := q) tq19 gY2 sY2
  obtain ⟨Y3, hY3⟩ : ∃ X, nc Y2 16 = X := ⟨_, rfl⟩
  rw [hY3] at rn20
  have gY3 : Y3.1.1 = 0 := by rw [← hY3, nc_g]; exact gY2
  have sY3 : Y3.1.2.1 = q + 23 := by rw [← hY3, nc_s, sY2]
  obtain ⟨T4, S4, rn21, fr21, tq21, eq21, ta21, za21⟩ := x11_21 (T := T3) (S := S3) (c := Y3) (q := q) tq20 gY3 sY3
  obtain ⟨Y4, hY4⟩ : ∃ X, nc Y3 4 = X := ⟨_, rfl⟩
  rw [hY4] at rn21
  have gY4 : Y4.1.1 = 0 := by rw [← hY4, nc_g]; exact gY3
  have sY4 : Y4.1.2.1 = q + 24 := by rw [← hY4, nc_s, sY3]
  obtain ⟨T5, S5, rn22, fr22, tq22, eq22, ta22, za22⟩ := x11_22 (T := T4) (S := S4) (c := Y4) (q := q) tq21 gY4 sY4
  obtain ⟨Y5, hY5⟩ : ∃ X, nc Y4 4 = X := ⟨_, rfl⟩
  rw [hY5] at rn22
  have gY5 : Y5.1.1 = 0 := by rw [← hY5, nc_g]; exact gY4
  have sY5 : Y5.1.2.1 = q + 25 := by rw [← hY5, nc_s, sY4]
  obtain ⟨S6, rn23, fr23, eq23⟩ := x11_23 (T := T5) (S := S5) (c := Y5) (q := q) tq22
  have hc : cg3 c = Y5 := by
    unfold cg3
    rw [hY1, hY2, hY3, hY4, hY5]
  rw [hc]
  clear gY1 sY1 gY2 sY2 gY3 sY3 gY4 sY4 gY5 sY5
  refine ⟨T5, S6, fun Q hQ => rn18 Q (rn19 Q (rn20 Q (rn21 Q (rn22 Q (rn23 Q (hQ)))))), fun a h1 h2 => ⟨?_, ?_⟩, tq22, by rw [eq23, eq22, eq21, eq20, eq19, eq18], by rw [(fr22 _ (by omega) (by omega)).1, (fr21 _ (by omega) (by omega)).1, (fr20 _ (by omega) (by omega)).1, (fr19 _ (by omega) (by omega)).1, ta18], by rw [(fr22 _ (by omega) (by omega)).1, (fr21 _ (by omega) (by omega)).1, (fr20 _ (by omega) (by omega)).1, ta19], by rw [(fr22 _ (by omega) (by omega)).1, (fr21 _ (by omega) (by omega)).1, ta20], by rw [(fr22 _ (by omega) (by omega)).1, ta21], by rw [ta22]⟩
  · rw [(fr22 a h1 (by omega)).1, (fr21 a h1 (by omega)).1, (fr20 a h1 (by omega)).1, (fr19 a h1 (by omega)).1, (fr18 a h1 (by omega)).1]
  · rw [fr23 a h1, (fr22 a h1 (by omega)).2, (fr21 a h1 (by omega)).2, (fr20 a h1 (by omega)).2, (fr19 a h1 (by omega)).2, (fr18 a h1 (by omega)).2]
def cg4 (c : pm_M × pm_C) : pm_M × pm_C := (nc (nc (nc (nc (nc (nc c 70) 7) 7) 10) 48) 12)
theorem cg4_g {c : pm_M × pm_C} : (cg4 c).1.1 = c.1.1 := by
  unfold cg4
  simp only [nc_g]
theorem cg4_s {c : pm_M × pm_C} : (cg4 c).1.2.1 = c.1.2.1 + 6 := by
  unfold cg4
  simp only [nc_s]
theorem x11_g4 (hT : T q = (51, 0)) (hg : c.1.1 = 0) (hs : c.1.2.1 = q + 25) : ∃ T' S', (∀ Q, px_Ev 3 133 351 [.ref q] [] (zh T' S' (cg4 c)) Q → px_Ev 3 133 303 [.ref q] [] (zh T S c) Q) ∧ (∀ a, a ≠ q → (a < q + 25 ∨ q + 31 ≤ a) → T' a = T a ∧ S' a = S a) ∧ T' q = (51, 0) ∧ S' q = upz (upz (upz (upz (upz (upz (S q) 47 ((q + 25 : Nat) : Int)) 48 ((q + 26 : Nat) : Int)) 49 ((q + 27 : Nat) : Int)) 50 ((q + 28 : Nat) : Int)) 55 ((q + 29 : Nat) : Int)) 56 ((q + 30 : Nat) : Int) ∧ T' (q + 25) = (20, 70) ∧ T' (q + 26) = (20, 7) ∧ T' (q + 27) = (20, 7) ∧ T' (q + 28) = (20, 10) ∧ T' (q + 29) = (20, 48) ∧ T' (q + 30) = (20, 12) := by
  obtain ⟨T1, S1, rn24, fr24, tq24, eq24, ta24, za24⟩ := x11_24 (T := T) (S := S) (c := c) (q := q) hT hg hs
  obtain ⟨Y1, hY1⟩ : ∃ X, nc c 70 = X := ⟨_, rfl⟩
  rw [hY1] at rn24
  have gY1 : Y1.1.1 = 0 := by rw [← hY1, nc_g]; exact hg
  have sY1 : Y1.1.2.1 = q + 26 := by rw [← hY1, nc_s, hs]
  obtain ⟨T2, S2, rn25, fr25, tq25, eq25, ta25, za25⟩ := x11_25 (T := T1) (S := S1) (c := Y1) (q := q) tq24 gY1 sY1
  obtain ⟨Y2, hY2⟩ : ∃ X, nc Y1 7 = X := ⟨_, rfl⟩
  rw [hY2] at rn25
  have gY2 : Y2.1.1 = 0 := by rw [← hY2, nc_g]; exact gY1
  have sY2 : Y2.1.2.1 = q + 27 := by rw [← hY2, nc_s, sY1]
  obtain ⟨T3, S3, rn26, fr26, tq26, eq26, ta26, za26⟩ := x11_26 (T := T2) (S := S2) (c := Y2) (q := q) tq25 gY2 sY2
  obtain ⟨Y3, hY3⟩ : ∃ X, nc Y2 7 = X := ⟨_, rfl⟩
  rw [hY3] at rn26
  have gY3 : Y3.1.1 = 0 := by rw [← hY3, nc_g]; exact gY2
  have sY3 : Y3.1.2.1 = q + 28 := by rw [← hY3, nc_s, sY2]
  obtain ⟨T4, S4, rn27, fr27, tq27, eq27, ta27, za27⟩ := x11_27 (T := T3) (S := S3) (c := Y3) (q := q) tq26 gY3 sY3
  obtain ⟨Y4, hY4⟩ : ∃ X, nc Y3 10 = X := ⟨_, rfl⟩
  rw [hY4] at rn27
  have gY4 : Y4.1.1 = 0 := by rw [← hY4, nc_g]; exact gY3
  have sY4 : Y4.1.2.1 = q + 29 := by rw [← hY4, nc_s, sY3]
  obtain ⟨T5, S5, rn28, fr28, tq28, eq28, ta28, za28⟩ := x11_28 (T := T4) (S := S4) (c := Y4) (q := q) tq27 gY4 sY4
  obtain ⟨Y5, hY5⟩ : ∃ X, nc Y4 48 = X := ⟨_, rfl⟩
  rw [hY5] at rn28
  have gY5 : Y5.1.1 = 0 := by rw [← hY5, nc_g]; exact gY4
  have sY5 : Y5.1.2.1 = q + 30 := by rw [← hY5, nc_s, sY4]
  obtain ⟨T6, S6, rn29, fr29, tq29, eq29, ta29, za29⟩ := x11_29 (T := T5) (S := S5) (c := Y5) (q := q) tq28 gY5 sY5
  obtain ⟨Y6, hY6⟩ : ∃ X, nc Y5 12 = X := ⟨_, rfl⟩
  rw [hY6] at rn29
  have gY6 : Y6.1.1 = 0 := by rw [← hY6, nc_g]; exact gY5
  have sY6 : Y6.1.2.1 = q + 31 := by rw [← hY6, nc_s, sY5]
  have hc : cg4 c = Y6 := by
    unfold cg4
    rw [hY1, hY2, hY3, hY4, hY5, hY6]
  rw [hc]
  clear gY1 sY1 gY2 sY2 gY3 sY3 gY4 sY4 gY5 sY5 gY6 sY6
  refine ⟨T6, S6, fun Q hQ => rn24 Q (rn25 Q (rn26 Q (rn27 Q (rn28 Q (rn29 Q (hQ)))))), fun a h1 h2 => ⟨?_, ?_⟩, tq29, by rw [eq29, eq28, eq27, eq26, eq25, eq24], by rw [(fr29 _ (by omega) (by omega)).1, (fr28 _ (by omega) (by omega)).1, (fr27 _ (by omega) (by omega)).1, (fr26 _ (by omega) (by omega)).1, (fr25 _ (by omega) (by omega)).1, ta24], by rw [(fr29 _ (by omega) (by omega)).1, (fr28 _ (by omega) (by omega)).1, (fr27 _ (by omega) (by omega)).1, (fr26 _ (by omega) (by omega)).1, ta25], by rw [(fr29 _ (by omega) (by omega)).1, (fr28 _ (by omega) (by omega)).1, (fr27 _ (by omega) (by omega)).1, ta26], by rw [(fr29 _ (by omega) (by omega)).1, (fr28 _ (by omega) (by omega)).1, ta27], by rw [(fr29 _ (by omega) (by omega)).1, ta28], by rw [ta29]⟩
  · rw [(fr29 a h1 (by omega)).1, (fr28 a h1 (by omega)).1, (fr27 a h1 (by omega)).1, (fr26 a h1 (by omega)).1, (fr25 a h1 (by omega)).1, (fr24 a h1 (by omega)).1]
  · rw [(fr29 a h1 (by omega)).2, (fr28 a h1 (by omega)).2, (fr27 a h1 (by omega)).2, (fr26 a h1 (by omega)).2, (fr25 a h1 (by omega)).2, (fr24 a h1 (by omega)).2]
def cg5 (c : pm_M × pm_C) : pm_M × pm_C := (nc (nc (nc (nc (nc c 12) 16) 48) 12) 3)
theorem cg5_g {c : pm_M × pm_C} : (cg5 c).1.1 = c.1.1 := by
  unfold cg5
  simp only [nc_g]
theorem cg5_s {c : pm_M × pm_C} : (cg5 c).1.2.1 = c.1.2.1 + 5 := by
  unfold cg5
  simp only [nc_s]
theorem x11_g5 (hT : T q = (51, 0)) (hg : c.1.1 = 0) (hs : c.1.2.1 = q + 31) : ∃ T' S', (∀ Q, px_Ev 3 133 390 [.ref q] [] (zh T' S' (cg5 c)) Q → px_Ev 3 133 351 [.ref q] [] (zh T S c) Q) ∧ (∀ a, a ≠ q → (a < q + 31 ∨ q + 36 ≤ a) → T' a = T a ∧ S' a = S a) ∧ T' q = (51, 0) ∧ S' q = upz (upz (upz (upz (upz (S q) 57 ((q + 31 : Nat) : Int)) 62 ((q + 32 : Nat) : Int)) 63 ((q + 33 : Nat) : Int)) 64 ((q + 34 : Nat) : Int)) 65 ((q + 35 : Nat) : Int) ∧ T' (q + 31) = (20, 12) ∧ T' (q + 32) = (20, 16) ∧ T' (q + 33) = (20, 48) ∧ T' (q + 34) = (20, 12) ∧ T' (q + 35) = (20, 3) := by
  obtain ⟨T1, S1, rn30, fr30, tq30, eq30, ta30, za30⟩ := x11_30 (T := T) (S := S) (c := c) (q := q) hT hg hs
  obtain ⟨Y1, hY1⟩ : ∃ X, nc c 12 = X := ⟨_, rfl⟩
  rw [hY1] at rn30
  have gY1 : Y1.1.1 = 0 := by rw [← hY1, nc_g]; exact hg
  have sY1 : Y1.1.2.1 = q + 32 := by rw [← hY1, nc_s, hs]
  obtain ⟨T2, S2, rn31, fr31, tq31, eq31, ta31, za31⟩ := x11_31 (T := T1) (S := S1) (c := Y1) (q := q) tq30 gY1 sY1
  obtain ⟨Y2, hY2⟩ : ∃ X, nc Y1 16 = X := ⟨_, rfl⟩
  rw [hY2] at rn31
  have gY2 : Y2.1.1 = 0 := by rw [← hY2, nc_g]; exact gY1
  have sY2 : Y2.1.2.1 = q + 33 := by rw [← hY2, nc_s, sY1]
  obtain ⟨T3, S3, rn32, fr32, tq32, eq32, ta32, za32⟩ := x11_32 (T := T2) (S := S2) (c := Y2) (q := q) tq31 gY2 sY2
  obtain ⟨Y3, hY3⟩ : ∃ X, nc Y2 48 = X := ⟨_, rfl⟩
  rw [hY3] at rn32
  have gY3 : Y3.1.1 = 0 := by rw [← hY3, nc_g]; exact gY2
  have sY3 : Y3.1.2.1 = q + 34 := by rw [← hY3, nc_s, sY2]
  obtain ⟨T4, S4, rn33, fr33, tq33, eq33, ta33, za33⟩ := x11_33 (T := T3) (S := S3) (c := Y3) (q := q) tq32 gY3 sY3
  obtain ⟨Y4, hY4⟩ : ∃ X, nc Y3 12 = X := ⟨_, rfl⟩
  rw [hY4] at rn33
  have gY4 : Y4.1.1 = 0 := by rw [← hY4, nc_g]; exact gY3
  have sY4 : Y4.1.2.1 = q + 35 := by rw [← hY4, nc_s, sY3]
  obtain ⟨T5, S5, rn34, fr34, tq34, eq34, ta34, za34⟩ := x11_34 (T := T4) (S := S4) (c := Y4) (q := q) tq33 gY4 sY4
  obtain ⟨Y5, hY5⟩ : ∃ X, nc Y4 3 = X := ⟨_, rfl⟩
  rw [hY5] at rn34
  have gY5 : Y5.1.1 = 0 := by rw [← hY5, nc_g]; exact gY4
  have sY5 : Y5.1.2.1 = q + 36 := by rw [← hY5, nc_s, sY4]
  have hc : cg5 c = Y5 := by
    unfold cg5
    rw [hY1, hY2, hY3, hY4, hY5]
  rw [hc]
  clear gY1 sY1 gY2 sY2 gY3 sY3 gY4 sY4 gY5 sY5
  refine ⟨T5, S5, fun Q hQ => rn30 Q (rn31 Q (rn32 Q (rn33 Q (rn34 Q (hQ))))), fun a h1 h2 => ⟨?_, ?_⟩, tq34, by rw [eq34, eq33, eq32, eq31, eq30], by rw [(fr34 _ (by omega) (by omega)).1, (fr33 _ (by omega) (by omega)).1, (fr32 _ (by omega) (by omega)).1, (fr31 _ (by omega) (by omega)).1, ta30], by rw [(fr34 _ (by omega) (by omega)).1, (fr33 _ (by omega) (by omega)).1, (fr32 _ (by omega) (by omega)).1, ta31], by rw [(fr34 _ (by omega) (by omega)).1, (fr33 _ (by omega) (by omega)).1, ta32], by rw [(fr34 _ (by omega) (by omega)).1, ta33], by rw [ta34]⟩
  · rw [(fr34 a h1 (by omega)).1, (fr33 a h1 (by omega)).1, (fr32 a h1 (by omega)).1, (fr31 a h1 (by omega)).1, (fr30 a h1 (by omega)).1]
  · rw [(fr34 a h1 (by omega)).2, (fr33 a h1 (by omega)).2, (fr32 a h1 (by omega)).2, (fr31 a h1 (by omega)).2, (fr30 a h1 (by omega)).2]
end MAKE
