/-! CONSTRUCTORS, 12: the Model as it is made -/
section MAKE
variable {T : Nat → Nat × Nat} {S : Nat → Nat → Int} {c : pm_M × pm_C} {q : Nat}
def cX11 (c : pm_M × pm_C) : pm_M × pm_C := cg5 (cg4 (cg3 (cg2 (cg1 (cg0 (nc (nc c 4) 14))))))
theorem x11_all (hT : T q = (51, 0)) (hS : S q = df11) (hg : c.1.1 = 0) (hs : c.1.2.1 = q + 1) (hC : tcx c.2) : ∃ T8 S8, (∀ Q, px_Ev 3 133 390 [.ref q] [] (zh T8 S8 (cX11 c)) Q → px_Ev 3 133 0 [.ref q] [] (zh T S c) Q) ∧ (∀ a, (a < q ∨ q + 36 ≤ a) → T8 a = T a ∧ S8 a = S a) ∧ T8 q = (51, 0) ∧ S8 q = upz (upz (upz (upz (upz (upz (upz (upz (upz (upz (upz (upz (upz (upz (upz (upz (upz (upz (upz (upz (upz (upz (upz (upz (upz (upz (upz (upz (upz (upz (upz (upz (upz (upz (upz (upz (upz df11 0 ((q + 1 : Nat) : Int)) 2 ((q + 2 : Nat) : Int)) 3 ((q + 3 : Nat) : Int)) 4 ((q + 4 : Nat) : Int)) 5 ((q + 5 : Nat) : Int)) 6 ((q + 6 : Nat) : Int)) 7 ((q + 7 : Nat) : Int)) 8 ((q + 8 : Nat) : Int)) 9 ((q + 9 : Nat) : Int)) 10 ((q + 10 : Nat) : Int)) 20 (-1)) 23 ((q + 11 : Nat) : Int)) 24 ((q + 12 : Nat) : Int)) 25 ((q + 13 : Nat) : Int)) 26 ((q + 14 : Nat) : Int)) 27 ((q + 15 : Nat) : Int)) 28 ((q + 16 : Nat) : Int)) 29 ((q + 17 : Nat) : Int)) 30 ((q + 18 : Nat) : Int)) 31 ((q + 19 : Nat) : Int)) 32 ((q + 20 : Nat) : Int)) 33 ((q + 21 : Nat) : Int)) 34 ((q + 22 : Nat) : Int)) 42 ((q + 23 : Nat) : Int)) 43 ((q + 24 : Nat) : Int)) 45 (-1)) 47 ((q + 25 : Nat) : Int)) 48 ((q + 26 : Nat) : Int)) 49 ((q + 27 : Nat) : Int)) 50 ((q + 28 : Nat) : Int)) 55 ((q + 29 : Nat) : Int)) 56 ((q + 30 : Nat) : Int)) 57 ((q + 31 : Nat) : Int)) 62 ((q + 32 : Nat) : Int)) 63 ((q + 33 : Nat) : Int)) 64 ((q + 34 : Nat) : Int)) 65 ((q + 35 : Nat) : Int) ∧ S8 (q + 9) = (fun _ => 0) ∧ S8 (q + 10) = (fun _ => 0) ∧ (∀ k, k < 4 → S8 (q + 1) k = (c.2.2.1 k : Nat)) ∧ T8 (q + 1) = (25, 4) ∧ T8 (q + 2) = (20, 14) ∧ T8 (q + 3) = (20, 20) ∧ T8 (q + 4) = (20, 20) ∧ T8 (q + 5) = (20, 20) ∧ T8 (q + 6) = (20, 20) ∧ T8 (q + 7) = (20, 20) ∧ T8 (q + 8) = (20, 20) ∧ T8 (q + 9) = (20, 3) ∧ T8 (q + 10) = (20, 500) ∧ T8 (q + 11) = (20, 500) ∧ T8 (q + 12) = (20, 2) ∧ T8 (q + 13) = (20, 2) ∧ T8 (q + 14) = (20, 128) ∧ T8 (q + 15) = (20, 128) ∧ T8 (q + 16) = (20, 128) ∧ T8 (q + 17) = (20, 128) ∧ T8 (q + 18) = (20, 128) ∧ T8 (q + 19) = (20, 128) ∧ T8 (q + 20) = (20, 64) ∧ T8 (q + 21) = (20, 64) ∧ T8 (q + 22) = (20, 16) ∧ T8 (q + 23) = (20, 4) ∧ T8 (q + 24) = (20, 4) ∧ T8 (q + 25) = (20, 70) ∧ T8 (q + 26) = (20, 7) ∧ T8 (q + 27) = (20, 7) ∧ T8 (q + 28) = (20, 10) ∧ T8 (q + 29) = (20, 48) ∧ T8 (q + 30) = (20, 12) ∧ T8 (q + 31) = (20, 12) ∧ T8 (q + 32) = (20, 16) ∧ T8 (q + 33) = (20, 48) ∧ T8 (q + 34) = (20, 12) ∧ T8 (q + 35) = (20, 3) := by
  have runA := x11_sides hT hS hg hs hC
  obtain ⟨T0, hT0⟩ : ∃ X, upC (upC T (q + 1) (55, 4)) (q + 1) (25, 4) = X := ⟨_, rfl⟩
  obtain ⟨S0, hS0⟩ : ∃ X, upS (upS S q (upz df11 0 ((q + 1 : Nat) : Int))) (q + 1) (upz (upz (upz (upz (fun _ => -1) 0 (c.2.2.1 0 : Nat)) 1 (c.2.2.1 1 : Nat)) 2 (c.2.2.1 2 : Nat)) 3 (c.2.2.1 3 : Nat)) = X := ⟨_, rfl⟩
  obtain ⟨Y0, hY0⟩ : ∃ X, nc c 4 = X := ⟨_, rfl⟩
  rw [hT0, hS0, hY0] at runA
  have a0 : T0 q = (51, 0) := by rw [← hT0, upC_ne (by omega), upC_ne (by omega)]; exact hT
  have a1 : T0 (q + 1) = (25, 4) := by rw [← hT0, upC_eq]
  have a2 : S0 q = upz df11 0 ((q + 1 : Nat) : Int) := by rw [← hS0, upS_ne (by omega), upS_eq]
  have a3 : ∀ k, k < 4 → S0 (q + 1) k = (c.2.2.1 k : Nat) := fun k hk => by
    rw [← hS0, upS_eq]
    rcases (show k = 0 ∨ k = 1 ∨ k = 2 ∨ k = 3 by omega) with rfl | rfl | rfl | rfl <;> rfl
  have a4 : ∀ a, a ≠ q → a ≠ q + 1 → T0 a = T a ∧ S0 a = S a := fun a h1 h2 => by
    rw [← hT0, ← hS0, upC_ne h2, upC_ne h2, upS_ne h2, upS_ne h1]
    exact ⟨rfl, rfl⟩
  have gY0 : Y0.1.1 = 0 := by rw [← hY0, nc_g]; exact hg
  have sY0 : Y0.1.2.1 = q + 2 := by rw [← hY0, nc_s, hs]
  obtain ⟨f0, runB⟩ := x11_told (T := T0) (S := S0) (c := Y0) a0 gY0 sY0
  obtain ⟨T1, hT1⟩ : ∃ X, upC T0 (q + 2) (20, 14) = X := ⟨_, rfl⟩
  obtain ⟨S1, hS1⟩ : ∃ X, upS (upS S0 q (upz (S0 q) 2 ((q + 2 : Nat) : Int))) (q + 2) f0 = X := ⟨_, rfl⟩
  obtain ⟨Y1, hY1⟩ : ∃ X, nc Y0 14 = X := ⟨_, rfl⟩
  rw [hT1, hS1, hY1] at runB
  have b0 : T1 q = (51, 0) := by rw [← hT1, upC_ne (by omega)]; exact a0
  have b1 : T1 (q + 2) = (20, 14) := by rw [← hT1, upC_eq]
  have b2 : S1 q = upz (S0 q) 2 ((q + 2 : Nat) : Int) := by rw [← hS1, upS_ne (by omega), upS_eq]
  have b4 : ∀ a, a ≠ q → a ≠ q + 2 → T1 a = T0 a ∧ S1 a = S0 a := fun a h1 h2 => by
    rw [← hT1, ← hS1, upC_ne h2, upS_ne h2, upS_ne h1]
    exact ⟨rfl, rfl⟩
  have gY1 : Y1.1.1 = 0 := by rw [← hY1, nc_g]; exact gY0
  have sY1 : Y1.1.2.1 = q + 3 := by rw [← hY1, nc_s, sY0]
  obtain ⟨T2, S2, rg0, fg0, tq0, eq0, ta0, ta1, ta2, ta3, ta4, ta5⟩ := x11_g0 (T := T1) (S := S1) (c := Y1) (q := q) b0 gY1 sY1
  obtain ⟨Y2, hY2⟩ : ∃ X, cg0 Y1 = X := ⟨_, rfl⟩
  rw [hY2] at rg0
  have gY2 : Y2.1.1 = 0 := by rw [← hY2, cg0_g]; exact gY1
  have sY2 : Y2.1.2.1 = q + 9 := by rw [← hY2, cg0_s, sY1]
  obtain ⟨T3, S3, rg1, fg1, tq1, eq1, ta6, ta7, ta9, ta10, ta11, za9, za10⟩ := x11_g1 (T := T2) (S := S2) (c := Y2) (q := q) tq0 gY2 sY2
  obtain ⟨Y3, hY3⟩ : ∃ X, cg1 Y2 = X := ⟨_, rfl⟩
  rw [hY3] at rg1
  have gY3 : Y3.1.1 = 0 := by rw [← hY3, cg1_g]; exact gY2
  have sY3 : Y3.1.2.1 = q + 14 := by rw [← hY3, cg1_s, sY2]
  obtain ⟨T4, S4, rg2, fg2, tq2, eq2, ta12, ta13, ta14, ta15, ta16, ta17⟩ := x11_g2 (T := T3) (S := S3) (c := Y3) (q := q) tq1 gY3 sY3
  obtain ⟨Y4, hY4⟩ : ∃ X, cg2 Y3 = X := ⟨_, rfl⟩
  rw [hY4] at rg2
  have gY4 : Y4.1.1 = 0 := by rw [← hY4, cg2_g]; exact gY3
  have sY4 : Y4.1.2.1 = q + 20 := by rw [← hY4, cg2_s, sY3]
  obtain ⟨T5, S5, rg3, fg3, tq3, eq3, ta18, ta19, ta20, ta21, ta22⟩ := x11_g3 (T := T4) (S := S4) (c := Y4) (q := q) tq2 gY4 sY4
  obtain ⟨Y5, hY5⟩ : ∃ X, cg3 Y4 = X := ⟨_, rfl⟩
  rw [hY5] at rg3
  have gY5 : Y5.1.1 = 0 := by rw [← hY5, cg3_g]; exact gY4
  have sY5 : Y5.1.2.1 = q + 25 := by rw [← hY5, cg3_s, sY4]
  obtain ⟨T6, S6, rg4, fg4, tq4, eq4, ta24, ta25, ta26, ta27, ta28, ta29⟩ := x11_g4 (T := T5) (S := S5) (c := Y5) (q := q) tq3 gY5 sY5
  obtain ⟨Y6, hY6⟩ : ∃ X, cg4 Y5 = X := ⟨_, rfl⟩
  rw [hY6] at rg4
  have gY6 : Y6.1.1 = 0 := by rw [← hY6, cg4_g]; exact gY5
  have sY6 : Y6.1.2.1 = q + 31 := by rw [← hY6, cg4_s, sY5]
  obtain ⟨T7, S7, rg5, fg5, tq5, eq5, ta30, ta31, ta32, ta33, ta34⟩ := x11_g5 (T := T6) (S := S6) (c := Y6) (q := q) tq4 gY6 sY6
  obtain ⟨Y7, hY7⟩ : ∃ X, cg5 Y6 = X := ⟨_, rfl⟩
  rw [hY7] at rg5
  have gY7 : Y7.1.1 = 0 := by rw [← hY7, cg5_g]; exact gY6
  have sY7 : Y7.1.2.1 = q + 36 := by rw [← hY7, cg5_s, sY6]
  have hc : cX11 c = Y7 := by
    unfold cX11
    rw [hY0, hY1, hY2, hY3, hY4, hY5, hY6, hY7]
  rw [hc]
  clear gY0 sY0 gY1 sY1 gY2 sY2 gY3 sY3 gY4 sY4 gY5 sY5 gY6 sY6 gY7 sY7
  refine ⟨T7, S7, fun Q hQ => runA Q (runB Q (rg0 Q (rg1 Q (rg2 Q (rg3 Q (rg4 Q (rg5 Q (hQ)))))))), fun a ha => ?_, tq5, by rw [eq5, eq4, eq3, eq2, eq1, eq0, b2, a2], by rw [(fg5 _ (by omega) (by omega)).2, (fg4 _ (by omega) (by omega)).2, (fg3 _ (by omega) (by omega)).2, (fg2 _ (by omega) (by omega)).2, za9], by rw [(fg5 _ (by omega) (by omega)).2, (fg4 _ (by omega) (by omega)).2, (fg3 _ (by omega) (by omega)).2, (fg2 _ (by omega) (by omega)).2, za10], fun k hk => ?_, by rw [(fg5 _ (by omega) (by omega)).1, (fg4 _ (by omega) (by omega)).1, (fg3 _ (by omega) (by omega)).1, (fg2 _ (by omega) (by omega)).1, (fg1 _ (by omega) (by omega)).1, (fg0 _ (by omega) (by omega)).1, (b4 _ (by omega) (by omega)).1, a1], by rw [(fg5 _ (by omega) (by omega)).1, (fg4 _ (by omega) (by omega)).1, (fg3 _ (by omega) (by omega)).1, (fg2 _ (by omega) (by omega)).1, (fg1 _ (by omega) (by omega)).1, (fg0 _ (by omega) (by omega)).1, b1], by rw [(fg5 _ (by omega) (by omega)).1, (fg4 _ (by omega) (by omega)).1, (fg3 _ (by omega) (by omega)).1, (fg2 _ (by omega) (by omega)).1, (fg1 _ (by omega) (by omega)).1, ta0], by rw [(fg5 _ (by omega) (by omega)).1, (fg4 _ (by omega) (by omega)).1, (fg3 _ (by omega) (by omega)).1, (fg2 _ (by omega) (by omega)).1, (fg1 _ (by omega) (by omega)).1, ta1], by rw [(fg5 _ (by omega) (by omega)).1, (fg4 _ (by omega) (by omega)).1, (fg3 _ (by omega) (by omega)).1, (fg2 _ (by omega) (by omega)).1, (fg1 _ (by omega) (by omega)).1, ta2], by rw [(fg5 _ (by omega) (by omega)).1, (fg4 _ (by omega) (by omega)).1, (fg3 _ (by omega) (by omega)).1, (fg2 _ (by omega) (by omega)).1, (fg1 _ (by omega) (by omega)).1, ta3], by rw [(fg5 _ (by omega) (by omega)).1, (fg4 _ (by omega) (by omega)).1, (fg3 _ (by omega) (by omega)).1, (fg2 _ (by omega) (by omega)).1, (fg1 _ (by omega) (by omega)).1, ta4], by rw [(fg5 _ (by omega) (by omega)).1, (fg4 _ (by omega) (by omega)).1, (fg3 _ (by omega) (by omega)).1, (fg2 _ (by omega) (by omega)).1, (fg1 _ (by omega) (by omega)).1, ta5], by rw [(fg5 _ (by omega) (by omega)).1, (fg4 _ (by omega) (by omega)).1, (fg3 _ (by omega) (by omega)).1, (fg2 _ (by omega) (by omega)).1, ta6], by rw [(fg5 _ (by omega) (by omega)).1, (fg4 _ (by omega) (by omega)).1, (fg3 _ (by omega) (by omega)).1, (fg2 _ (by omega) (by omega)).1, ta7], by rw [(fg5 _ (by omega) (by omega)).1, (fg4 _ (by omega) (by omega)).1, (fg3 _ (by omega) (by omega)).1, (fg2 _ (by omega) (by omega)).1, ta9], by rw [(fg5 _ (by omega) (by omega)).1, (fg4 _ (by omega) (by omega)).1, (fg3 _ (by omega) (by omega)).1, (fg2 _ (by omega) (by omega)).1, ta10], by rw [(fg5 _ (by omega) (by omega)).1, (fg4 _ (by omega) (by omega)).1, (fg3 _ (by omega) (by omega)).1, (fg2 _ (by omega) (by omega)).1, ta11], by rw [(fg5 _ (by omega) (by omega)).1, (fg4 _ (by omega) (by omega)).1, (fg3 _ (by omega) (by omega)).1, ta12], by rw [(fg5 _ (by omega) (by omega)).1, (fg4 _ (by omega) (by omega)).1, (fg3 _ (by omega) (by omega)).1, ta13], by rw [(fg5 _ (by omega) (by omega)).1, (fg4 _ (by omega) (by omega)).1, (fg3 _ (by omega) (by omega)).1, ta14], by rw [(fg5 _ (by omega) (by omega)).1, (fg4 _ (by omega) (by omega)).1, (fg3 _ (by omega) (by omega)).1, ta15], by rw [(fg5 _ (by omega) (by omega)).1, (fg4 _ (by omega) (by omega)).1, (fg3 _ (by omega) (by omega)).1, ta16], by rw [(fg5 _ (by omega) (by omega)).1, (fg4 _ (by omega) (by omega)).1, (fg3 _ (by omega) (by omega)).1, ta17], by rw [(fg5 _ (by omega) (by omega)).1, (fg4 _ (by omega) (by omega)).1, ta18], by rw [(fg5 _ (by omega) (by omega)).1, (fg4 _ (by omega) (by omega)).1, ta19], by rw [(fg5 _ (by omega) (by omega)).1, (fg4 _ (by omega) (by omega)).1, ta20], by rw [(fg5 _ (by omega) (by omega)).1, (fg4 _ (by omega) (by omega)).1, ta21], by rw [(fg5 _ (by omega) (by omega)).1, (fg4 _ (by omega) (by omega)).1, ta22], by rw [(fg5 _ (by omega) (by omega)).1, ta24], by rw [(fg5 _ (by omega) (by omega)).1, ta25], by rw [(fg5 _ (by omega) (by omega)).1, ta26], by rw [(fg5 _ (by omega) (by omega)).1, ta27], by rw [(fg5 _ (by omega) (by omega)).1, ta28], by rw [(fg5 _ (by omega) (by omega)).1, ta29], by rw [ta30], by rw [ta31], by rw [ta32], by rw [ta33], by rw [ta34]⟩
  · have h1 : a ≠ q := by omega
    refine ⟨?_, ?_⟩
    · rw [(fg5 a h1 (by omega)).1, (fg4 a h1 (by omega)).1, (fg3 a h1 (by omega)).1, (fg2 a h1 (by omega)).1, (fg1 a h1 (by omega)).1, (fg0 a h1 (by omega)).1, (b4 a h1 (by omega)).1, (a4 a h1 (by omega)).1]
    · rw [(fg5 a h1 (by omega)).2, (fg4 a h1 (by omega)).2, (fg3 a h1 (by omega)).2, (fg2 a h1 (by omega)).2, (fg1 a h1 (by omega)).2, (fg0 a h1 (by omega)).2, (b4 a h1 (by omega)).2, (a4 a h1 (by omega)).2]
  · rw [(fg5 _ (by omega) (by omega)).2, (fg4 _ (by omega) (by omega)).2, (fg3 _ (by omega) (by omega)).2, (fg2 _ (by omega) (by omega)).2, (fg1 _ (by omega) (by omega)).2, (fg0 _ (by omega) (by omega)).2, (b4 _ (by omega) (by omega)).2]
    exact a3 k hk
theorem i_X11 (D : Nat → Nat → Int) (hT : T q = (51, 0)) (hS : S q = df11) (hg : c.1.1 = 0) (hs : c.1.2.1 = q + 1) (hC : tcx c.2) :
    ∃ T' S', px_R 3 133 [.ref q] (zh T S c) (.inl none) (zh T' S' (cX11 c)) ∧ (∀ a, (a < q ∨ q + 36 ≤ a) → T' a = T a ∧ S' a = S a) ∧ mR T' S' q (iniF D) ∧ ∀ k, k < 4 → S' (q + 1) k = (c.2.2.1 k : Nat) := by
  obtain ⟨T8, S8, run, ff, t8, eq8, z9, z10, hsd, k1, k2, k3, k4, k5, k6, k7, k8, k9, k10, k11, k12, k13, k14, k15, k16, k17, k18, k19, k20, k21, k22, k23, k24, k25, k26, k27, k28, k29, k30, k31, k32, k33, k34, k35⟩ := x11_all hT hS hg hs hC
  obtain ⟨X, hX⟩ : ∃ X, cX11 c = X := ⟨_, rfl⟩
  rw [hX] at run ⊢
  have z := zf_11 (T := T8) (S := S8) (c := X) (q := q) (n := 0) t8 (by rw [eq8]; simp (disch := decide) only [upz_ne, upz_eq]) (by rw [eq8]; simp (disch := decide) only [upz_ne, upz_eq]) (by rw [eq8]; simp (disch := decide) only [upz_ne, upz_eq]) (by rw [eq8]; simp (disch := decide) only [upz_ne, upz_eq]) (by rw [eq8]; simp (disch := decide) only [upz_ne, upz_eq]) (by rw [eq8]; simp (disch := decide) only [upz_ne, upz_eq]) (by rw [eq8]; simp (disch := decide) only [upz_ne, upz_eq]) (by rw [eq8]; simp (disch := decide) only [upz_ne, upz_eq]) (by rw [eq8]; simp (disch := decide) only [upz_ne, upz_eq]) (by rw [eq8]; simp (disch := decide) only [upz_ne, upz_eq]) (by rw [eq8]; simp (disch := decide) only [upz_ne, upz_eq]) (by rw [eq8]; simp (disch := decide) only [upz_ne, upz_eq]) (by rw [eq8]; simp (disch := decide) only [upz_ne, upz_eq]) (by rw [eq8]; simp (disch := decide) only [upz_ne, upz_eq]) (by rw [eq8]; simp (disch := decide) only [upz_ne, upz_eq]) (by rw [eq8]; simp (disch := decide) only [upz_ne, upz_eq]) (by rw [eq8]; simp (disch := decide) only [upz_ne, upz_eq]) (by rw [eq8]; simp (disch := decide) only [upz_ne, upz_eq]) (by rw [eq8]; simp (disch := decide) only [upz_ne, upz_eq]) (by rw [eq8]; simp (disch := decide) only [upz_ne, upz_eq]) (by rw [eq8]; simp (disch := decide) only [upz_ne, upz_eq]) (by rw [eq8]; simp (disch := decide) only [upz_ne, upz_eq]) (by rw [eq8]; simp (disch := decide) only [upz_ne, upz_eq]) (by rw [eq8]; simp (disch := decide) only [upz_ne, upz_eq]) (by rw [eq8]; simp (disch := decide) only [upz_ne, upz_eq]) (by rw [eq8]; simp (disch := decide) only [upz_ne, upz_eq]) (by rw [eq8]; simp (disch := decide) only [upz_ne, upz_eq]) (by rw [eq8]; simp (disch := decide) only [upz_ne, upz_eq]) (by rw [eq8]; simp (disch := decide) only [upz_ne, upz_eq]) (by rw [eq8]; simp (disch := decide) only [upz_ne, upz_eq]) (by rw [eq8]; simp (disch := decide) only [upz_ne, upz_eq]) (by rw [eq8]; simp (disch := decide) only [upz_ne, upz_eq]) (by rw [eq8]; simp (disch := decide) only [upz_ne, upz_eq]) (by rw [eq8]; simp (disch := decide) only [upz_ne, upz_eq]) (by rw [eq8]; simp (disch := decide) only [upz_ne, upz_eq])
  have L0 : ∀ a, a ≠ q → (upC T8 q (12, 0)) a = T8 a := fun a h1 => upC_ne h1
  have hm : ly11 (upC T8 q (12, 0)) q := ⟨upC_eq, (L0 _ (by omega)).trans k1, (L0 _ (by omega)).trans k2, (L0 _ (by omega)).trans k3, (L0 _ (by omega)).trans k4, (L0 _ (by omega)).trans k5, (L0 _ (by omega)).trans k6, (L0 _ (by omega)).trans k7, (L0 _ (by omega)).trans k8, (L0 _ (by omega)).trans k9, (L0 _ (by omega)).trans k10, (L0 _ (by omega)).trans k11, (L0 _ (by omega)).trans k12, (L0 _ (by omega)).trans k13, (L0 _ (by omega)).trans k14, (L0 _ (by omega)).trans k15, (L0 _ (by omega)).trans k16, (L0 _ (by omega)).trans k17, (L0 _ (by omega)).trans k18, (L0 _ (by omega)).trans k19, (L0 _ (by omega)).trans k20, (L0 _ (by omega)).trans k21, (L0 _ (by omega)).trans k22, (L0 _ (by omega)).trans k23, (L0 _ (by omega)).trans k24, (L0 _ (by omega)).trans k25, (L0 _ (by omega)).trans k26, (L0 _ (by omega)).trans k27, (L0 _ (by omega)).trans k28, (L0 _ (by omega)).trans k29, (L0 _ (by omega)).trans k30, (L0 _ (by omega)).trans k31, (L0 _ (by omega)).trans k32, (L0 _ (by omega)).trans k33, (L0 _ (by omega)).trans k34, (L0 _ (by omega)).trans k35⟩
  obtain ⟨S', run2, fo, hR⟩ := x11_tail (T := upC T8 q (12, 0)) (S := S8) (c := X) D hm (by rw [eq8]; simp (disch := decide) only [upz_ne, upz_eq]; rfl) (by rw [eq8]; simp (disch := decide) only [upz_ne, upz_eq]) (fun j _ => congrFun z9 j) (fun j _ => congrFun z10 j)
  refine ⟨upC T8 q (12, 0), S', px_ofQ fun Q hQ => ?_, fun a ha => ⟨(L0 a (by omega)).trans (ff a ha).1, (fo a (by omega)).trans (ff a ha).2⟩, hR, fun k hk => ?_⟩
  · have hq := run2 Q hQ
    rw [← z] at hq
    exact run Q hq
  · rw [fo _ (by omega)]
    exact hsd k hk
end MAKE
