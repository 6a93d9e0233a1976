/-! CONSTRUCTORS, 8: the face as it is made -/
theorem ly9_eq {T T' : Nat → Nat × Nat} {q : Nat} (h : ly9 T q) (e : ∀ a, q ≤ a → a < q + 2 → T' a = T a) : ly9 T' q := by
  unfold ly9 at h ⊢
  rw [e q (by omega) (by omega), e (q + 1) (by omega) (by omega)]
  exact h
theorem ly5_eq {T T' : Nat → Nat × Nat} {q : Nat} (h : ly5 T q) (e : ∀ a, q ≤ a → a < q + 3 → T' a = T a) : ly5 T' q := by
  unfold ly5 at h ⊢
  rw [e q (by omega) (by omega), e (q + 1) (by omega) (by omega), e (q + 2) (by omega) (by omega)]
  exact h
theorem ly3_eq {T T' : Nat → Nat × Nat} {q : Nat} (h : ly3 T q) (e : ∀ a, q ≤ a → a < q + 3 → T' a = T a) : ly3 T' q := by
  unfold ly3 at h ⊢
  rw [e q (by omega) (by omega), e (q + 1) (by omega) (by omega), e (q + 2) (by omega) (by omega)]
  exact h
theorem ly8_eq {T T' : Nat → Nat × Nat} {q : Nat} (h : ly8 T q) (e : ∀ a, q ≤ a → a < q + 6 → T' a = T a) : ly8 T' q := by
  unfold ly8 at h ⊢
  rw [e q (by omega) (by omega), e (q + 1) (by omega) (by omega), e (q + 2) (by omega) (by omega), e (q + 3) (by omega) (by omega), e (q + 4) (by omega) (by omega), e (q + 5) (by omega) (by omega)]
  exact h
theorem ly0_eq {T T' : Nat → Nat × Nat} {q : Nat} (h : ly0 T q) (e : ∀ a, q ≤ a → a < q + 13 → T' a = T a) : ly0 T' q := by
  unfold ly0 at h ⊢
  rw [e q (by omega) (by omega), e (q + 1) (by omega) (by omega), e (q + 2) (by omega) (by omega), e (q + 3) (by omega) (by omega), e (q + 4) (by omega) (by omega), e (q + 5) (by omega) (by omega), e (q + 6) (by omega) (by omega), e (q + 7) (by omega) (by omega), e (q + 8) (by omega) (by omega), e (q + 9) (by omega) (by omega), e (q + 10) (by omega) (by omega), e (q + 11) (by omega) (by omega), e (q + 12) (by omega) (by omega)]
  exact h
theorem ly2_eq {T T' : Nat → Nat × Nat} {q : Nat} (h : ly2 T q) (e : ∀ a, q ≤ a → a < q + 3 → T' a = T a) : ly2 T' q := by
  unfold ly2 at h ⊢
  rw [e q (by omega) (by omega), e (q + 1) (by omega) (by omega), e (q + 2) (by omega) (by omega)]
  exact h
theorem ly6_eq {T T' : Nat → Nat × Nat} {q : Nat} (h : ly6 T q) (e : ∀ a, q ≤ a → a < q + 77 → T' a = T a) : ly6 T' q := by
  obtain ⟨h0, h1, h2, h3, h4, h5, h6, h7, h8, h9, h10, h11, h12, h13⟩ := h
  exact ⟨by rw [e q (by omega) (by omega)]; exact h0, by rw [e (q + 1) (by omega) (by omega)]; exact h1, by rw [e (q + 2) (by omega) (by omega)]; exact h2, by rw [e (q + 3) (by omega) (by omega)]; exact h3, by rw [e (q + 4) (by omega) (by omega)]; exact h4, by rw [e (q + 5) (by omega) (by omega)]; exact h5, ly1_eq h6 (e _ (by omega) (by omega)), ly4_eq h7 (fun a _ _ => e a (by omega) (by omega)), ly7_eq h8 (fun a _ _ => e a (by omega) (by omega)), ly7_eq h9 (fun a _ _ => e a (by omega) (by omega)), ly7_eq h10 (fun a _ _ => e a (by omega) (by omega)), ly7_eq h11 (fun a _ _ => e a (by omega) (by omega)), ly7_eq h12 (fun a _ _ => e a (by omega) (by omega)), ly7_eq h13 (fun a _ _ => e a (by omega) (by omega))⟩
section MAKE
variable {T : Nat → Nat × Nat} {S : Nat → Nat → Int} {c : pm_M × pm_C} {q : Nat}
theorem ncL_sg : ∀ (t : Nat) (c : pm_M × pm_C), (ncL t c).1.1 = c.1.1 ∧ (ncL t c).1.2.1 = c.1.2.1 + 9 * t
  | 0, c => ⟨rfl, rfl⟩
  | t + 1, c => by
    have h := ncL_sg t (nc7 (nc c 13))
    unfold ncL
    rw [h.1, h.2, nc7_g, nc_g, nc7_s, nc_s]
    exact ⟨rfl, by omega⟩
theorem cX6_g {c : pm_M × pm_C} : (cX6 c).1.1 = c.1.1 := by
  unfold cX6
  rw [(ncL_sg 5 _).1]
  simp only [nc_g, nc4_g, nc7_g]
theorem cX6_s {c : pm_M × pm_C} : (cX6 c).1.2.1 = c.1.2.1 + 76 := by
  unfold cX6
  rw [(ncL_sg 5 _).2]
  simp only [nc_s, nc4_s, nc7_s]
def cX10 (c : pm_M × pm_C) : pm_M × pm_C := (nc (nc (nc (nc (nc (nc (nc (nc (nc (nc (nc (nc (nc (nc (nc (nc (cX6 (nc (nc4 (nc (nc (nc (nc (nc (nc (nc (nc (nc (nc (nc (nc (nc (nc (nc7 (nc (nc4 (nc (nc4 (nc (nc (nc (nc (nc (nc (nc (nc (nc c 9) 500) 5) 10) 10) 3) 500) 500) 14)) 14)) 13)) 7) 14) 14) 3) 12) 48) 7) 14) 14) 3) 12) 48) 9) 14)) 17)) 6) 10) 10) 7) 7) 7) 7) 7) 7) 7) 7) 7) 128) 3) 12) 12)
/-- the first numbers of all -/
def iniF (D : Nat → Nat → Int) : fS := ((rdUsual (rdInit (fun _ => 0, D, fun _ _ => 0))).2.1, ([], (0, (fun _ => 0), fun _ => 0), fun _ => 0), (0, (fun _ => 0), -1), none, none, none)
theorem sc_ini {S : Nat → Nat → Int} {s : Nat} {D : Nat → Nat → Int} (h : ∀ k, k < 8 → S (s + k) = (rdUsual (rdInit (fun _ => 0, D, fun _ _ => 0))).2.1 k) : scOk S s := by
  have tp : tpF (fun _ => 0) := ⟨⟨by decide, by decide, by decide⟩, by decide, by decide, by decide⟩
  have e : rdLines (fun _ => 0) 500 (rdInit (fun _ => 0, D, fun _ _ => 0)) = rdInit (fun _ => 0, D, fun _ _ => 0) := by
    show rdLines (fun _ => 0) (499 + 1) _ = _
    unfold rdLines
    exact if_neg (fun z => z.2 rfl)
  refine (rdAll_ok (b := fun _ => 0) (P := (fun _ => 0, D, fun _ _ => 0)) tp).2 S s (fun k hk => ?_)
  unfold rdAll
  rw [e]
  exact h k hk
set_option maxHeartbeats 40000000 in
theorem x10_all (hT : T q = (50, 0)) (hS : S q = df10) (hg : c.1.1 = 0) (hs : c.1.2.1 = q + 1) : ∃ T12 S12 D, (∀ Q, px_Ev 5 101 137 [.ref q] [.ref q] (zh T12 S12 (cX10 c)) Q → px_Ev 5 101 5 [.ref q] [.ref q] (zh T S c) Q) ∧ (∀ a, (a < q ∨ q + 148 ≤ a) → T12 a = T a ∧ S12 a = S a) ∧ T12 q = (50, 0) ∧ S12 q = upz (upz (upz (upz (upz (upz (upz (upz (upz (upz (upz (upz df10 0 ((q + 1 : Nat) : Int)) 1 ((q + 3 : Nat) : Int)) 2 ((q + 6 : Nat) : Int)) 3 ((q + 9 : Nat) : Int)) 4 ((q + 17 : Nat) : Int)) 5 ((q + 25 : Nat) : Int)) 6 ((q + 34 : Nat) : Int)) 7 ((q + 40 : Nat) : Int)) 9 ((q + 46 : Nat) : Int)) 10 ((q + 55 : Nat) : Int)) 11 ((q + 132 : Nat) : Int)) 12 ((q + 145 : Nat) : Int) ∧ (ly9 T12 (q + 1) ∧ ly5 T12 (q + 3) ∧ ly3 T12 (q + 6) ∧ ly4 T12 (q + 9) ∧ ly4 T12 (q + 17) ∧ ly7 T12 (q + 25) ∧ ly8 T12 (q + 34) ∧ ly8 T12 (q + 40) ∧ ly1 T12 (q + 46) ∧ ly6 T12 (q + 55) ∧ ly0 T12 (q + 132) ∧ ly2 T12 (q + 145)) ∧ (S12 (q + 1) = upz (upz df9 2 (-1)) 3 ((q + 1 + 1 : Nat) : Int) ∧ S12 (q + 1 + 1) = (fun _ => 0)) ∧ (∀ k, k < 8 → S12 (q + 9 + k) = (rdUsual (rdInit (fun _ => 0, D, fun _ _ => 0))).2.1 k) ∧ (S12 (q + 34) 0 = 0 ∧ S12 (q + 34) 1 = 0 ∧ S12 (q + 34 + 1) = (fun _ => 0) ∧ S12 (q + 34 + 2) = (fun _ => 0) ∧ S12 (q + 34 + 3) = (fun _ => 0) ∧ S12 (q + 34 + 4) = (fun _ => 0) ∧ S12 (q + 34 + 5) = (fun _ => 0)) ∧ (S12 (q + 55) 2 = -1 ∧ ∀ j, j < 5 → S12 (q + 55 + 4) j = ((q + 55 + 32 + 9 * j : Nat) : Int)) ∧ (S12 (q + 132 + 1) = (fun _ => 0) ∧ ∀ j, j < 7 → S12 (q + 132 + 4) j = ((q + 132 + 5 + j : Nat) : Int)) := by
  obtain ⟨T1, S1, run0, f0, t1, e0, l0, ⟨xa1, xa2⟩⟩ := x10_0 (T := T) (S := S) (c := c) (q := q) hT hg hs
  obtain ⟨X1, hX1⟩ : ∃ X, nc (nc c 9) 500 = X := ⟨_, rfl⟩
  have gX1 : X1.1.1 = 0 := by rw [← hX1]; simp only [nc_g, nc4_g, nc7_g, hg]
  have sX1 : X1.1.2.1 = q + 3 := by rw [← hX1]; simp only [nc_s, nc4_s, nc7_s, hs]
  rw [hX1] at run0
  obtain ⟨T2, S2, run1, f1, t2, e1, l1, -⟩ := x10_1 (T := T1) (S := S1) (c := X1) (q := q) t1 gX1 sX1
  obtain ⟨X2, hX2⟩ : ∃ X, nc (nc (nc X1 5) 10) 10 = X := ⟨_, rfl⟩
  have gX2 : X2.1.1 = 0 := by rw [← hX2]; simp only [nc_g, nc4_g, nc7_g, gX1]
  have sX2 : X2.1.2.1 = q + 6 := by rw [← hX2]; simp only [nc_s, nc4_s, nc7_s, sX1]
  rw [hX2] at run1
  obtain ⟨T3, S3, run2, f2, t3, e2, l2, -⟩ := x10_2 (T := T2) (S := S2) (c := X2) (q := q) t2 gX2 sX2
  obtain ⟨X3, hX3⟩ : ∃ X, nc (nc (nc X2 3) 500) 500 = X := ⟨_, rfl⟩
  have gX3 : X3.1.1 = 0 := by rw [← hX3]; simp only [nc_g, nc4_g, nc7_g, gX2]
  have sX3 : X3.1.2.1 = q + 9 := by rw [← hX3]; simp only [nc_s, nc4_s, nc7_s, sX2]
  rw [hX3] at run2
  obtain ⟨T4, S4, run3, f3, t4, e3, l3, ⟨D3, xd3⟩⟩ := x10_3 (T := T3) (S := S3) (c := X3) (q := q) t3 gX3 sX3
  obtain ⟨X4, hX4⟩ : ∃ X, nc4 (nc X3 14) = X := ⟨_, rfl⟩
  have gX4 : X4.1.1 = 0 := by rw [← hX4]; simp only [nc_g, nc4_g, nc7_g, gX3]
  have sX4 : X4.1.2.1 = q + 17 := by rw [← hX4]; simp only [nc_s, nc4_s, nc7_s, sX3]
  rw [hX4] at run3
  obtain ⟨T5, S5, run4, f4, t5, e4, l4, ⟨D4, xd4⟩⟩ := x10_4 (T := T4) (S := S4) (c := X4) (q := q) t4 gX4 sX4
  obtain ⟨X5, hX5⟩ : ∃ X, nc4 (nc X4 14) = X := ⟨_, rfl⟩
  have gX5 : X5.1.1 = 0 := by rw [← hX5]; simp only [nc_g, nc4_g, nc7_g, gX4]
  have sX5 : X5.1.2.1 = q + 25 := by rw [← hX5]; simp only [nc_s, nc4_s, nc7_s, sX4]
  rw [hX5] at run4
  obtain ⟨T6, S6, run5, f5, t6, e5, l5, -⟩ := x10_5 (T := T5) (S := S5) (c := X5) (q := q) t5 gX5 sX5
  obtain ⟨X6, hX6⟩ : ∃ X, nc7 (nc X5 13) = X := ⟨_, rfl⟩
  have gX6 : X6.1.1 = 0 := by rw [← hX6]; simp only [nc_g, nc4_g, nc7_g, gX5]
  have sX6 : X6.1.2.1 = q + 34 := by rw [← hX6]; simp only [nc_s, nc4_s, nc7_s, sX5]
  rw [hX6] at run5
  obtain ⟨T7, S7, run6, f6, t7, e6, l6, ⟨xs60, xs61, xs62, xs63, xs64, xs65, xs66⟩⟩ := x10_6 (T := T6) (S := S6) (c := X6) (q := q) t6 gX6 sX6
  obtain ⟨X7, hX7⟩ : ∃ X, nc (nc (nc (nc (nc (nc X6 7) 14) 14) 3) 12) 48 = X := ⟨_, rfl⟩
  have gX7 : X7.1.1 = 0 := by rw [← hX7]; simp only [nc_g, nc4_g, nc7_g, gX6]
  have sX7 : X7.1.2.1 = q + 40 := by rw [← hX7]; simp only [nc_s, nc4_s, nc7_s, sX6]
  rw [hX7] at run6
  obtain ⟨T8, S8, run7, f7, t8, e7, l7, ⟨xs70, xs71, xs72, xs73, xs74, xs75, xs76⟩⟩ := x10_7 (T := T7) (S := S7) (c := X7) (q := q) t7 gX7 sX7
  obtain ⟨X8, hX8⟩ : ∃ X, nc (nc (nc (nc (nc (nc X7 7) 14) 14) 3) 12) 48 = X := ⟨_, rfl⟩
  have gX8 : X8.1.1 = 0 := by rw [← hX8]; simp only [nc_g, nc4_g, nc7_g, gX7]
  have sX8 : X8.1.2.1 = q + 46 := by rw [← hX8]; simp only [nc_s, nc4_s, nc7_s, sX7]
  rw [hX8] at run7
  obtain ⟨T9, S9, run8, f8, t9, e8, l8, -⟩ := x10_8 (T := T8) (S := S8) (c := X8) (q := q) t8 gX8 sX8
  obtain ⟨X9, hX9⟩ : ∃ X, nc4 (nc (nc X8 9) 14) = X := ⟨_, rfl⟩
  have gX9 : X9.1.1 = 0 := by rw [← hX9]; simp only [nc_g, nc4_g, nc7_g, gX8]
  have sX9 : X9.1.2.1 = q + 55 := by rw [← hX9]; simp only [nc_s, nc4_s, nc7_s, sX8]
  rw [hX9] at run8
  obtain ⟨T10, S10, run9, f9, t10, e9, k9, ⟨xq1, xq2⟩⟩ := x10_9 (T := T9) (S := S9) (c := X9) (q := q) t9 gX9 sX9
  obtain ⟨X10, hX10⟩ : ∃ X, cX6 (nc X9 17) = X := ⟨_, rfl⟩
  have gX10 : X10.1.1 = 0 := by rw [← hX10, cX6_g]; simp only [nc_g, gX9]
  have sX10 : X10.1.2.1 = q + 132 := by rw [← hX10, cX6_s]; simp only [nc_s, sX9]
  rw [hX10] at run9
  obtain ⟨T11, S11, run10, f10, t11, e10, l10, ⟨xe1, xe2⟩⟩ := x10_10 (T := T10) (S := S10) (c := X10) (q := q) t10 gX10 sX10
  obtain ⟨X11, hX11⟩ : ∃ X, nc (nc (nc (nc (nc (nc (nc (nc (nc (nc (nc (nc (nc X10 6) 10) 10) 7) 7) 7) 7) 7) 7) 7) 7) 7) 128 = X := ⟨_, rfl⟩
  have gX11 : X11.1.1 = 0 := by rw [← hX11]; simp only [nc_g, nc4_g, nc7_g, gX10]
  have sX11 : X11.1.2.1 = q + 145 := by rw [← hX11]; simp only [nc_s, nc4_s, nc7_s, sX10]
  rw [hX11] at run10
  obtain ⟨T12, S12, run11, f11, t12, e11, l11, -⟩ := x10_11 (T := T11) (S := S11) (c := X11) (q := q) t11 gX11 sX11
  obtain ⟨X12, hX12⟩ : ∃ X, nc (nc (nc X11 3) 12) 12 = X := ⟨_, rfl⟩
  have gX12 : X12.1.1 = 0 := by rw [← hX12]; simp only [nc_g, nc4_g, nc7_g, gX11]
  have sX12 : X12.1.2.1 = q + 148 := by rw [← hX12]; simp only [nc_s, nc4_s, nc7_s, sX11]
  rw [hX12] at run11
  have hc : cX10 c = X12 := by
    unfold cX10
    rw [hX1, hX2, hX3, hX4, hX5, hX6, hX7, hX8, hX9, hX10, hX11, hX12]
  rw [hc]
  have w12 : ∀ a, a ≠ q → a < q + 148 → T12 a = T12 a ∧ S12 a = S12 a := fun a _ _ => ⟨rfl, rfl⟩
  have w11 : ∀ a, a ≠ q → a < q + 145 → T12 a = T11 a ∧ S12 a = S11 a := fun a h1 h2 => ⟨(w12 a h1 (Nat.lt_trans h2 (Nat.add_lt_add_left (by decide) q))).1.trans (f11 a h1 (.inl h2)).1, (w12 a h1 (Nat.lt_trans h2 (Nat.add_lt_add_left (by decide) q))).2.trans (f11 a h1 (.inl h2)).2⟩
  have w10 : ∀ a, a ≠ q → a < q + 132 → T12 a = T10 a ∧ S12 a = S10 a := fun a h1 h2 => ⟨(w11 a h1 (Nat.lt_trans h2 (Nat.add_lt_add_left (by decide) q))).1.trans (f10 a h1 (.inl h2)).1, (w11 a h1 (Nat.lt_trans h2 (Nat.add_lt_add_left (by decide) q))).2.trans (f10 a h1 (.inl h2)).2⟩
  have w9 : ∀ a, a ≠ q → a < q + 55 → T12 a = T9 a ∧ S12 a = S9 a := fun a h1 h2 => ⟨(w10 a h1 (Nat.lt_trans h2 (Nat.add_lt_add_left (by decide) q))).1.trans (f9 a h1 (.inl h2)).1, (w10 a h1 (Nat.lt_trans h2 (Nat.add_lt_add_left (by decide) q))).2.trans (f9 a h1 (.inl h2)).2⟩
  have w8 : ∀ a, a ≠ q → a < q + 46 → T12 a = T8 a ∧ S12 a = S8 a := fun a h1 h2 => ⟨(w9 a h1 (Nat.lt_trans h2 (Nat.add_lt_add_left (by decide) q))).1.trans (f8 a h1 (.inl h2)).1, (w9 a h1 (Nat.lt_trans h2 (Nat.add_lt_add_left (by decide) q))).2.trans (f8 a h1 (.inl h2)).2⟩
  have w7 : ∀ a, a ≠ q → a < q + 40 → T12 a = T7 a ∧ S12 a = S7 a := fun a h1 h2 => ⟨(w8 a h1 (Nat.lt_trans h2 (Nat.add_lt_add_left (by decide) q))).1.trans (f7 a h1 (.inl h2)).1, (w8 a h1 (Nat.lt_trans h2 (Nat.add_lt_add_left (by decide) q))).2.trans (f7 a h1 (.inl h2)).2⟩
  have w6 : ∀ a, a ≠ q → a < q + 34 → T12 a = T6 a ∧ S12 a = S6 a := fun a h1 h2 => ⟨(w7 a h1 (Nat.lt_trans h2 (Nat.add_lt_add_left (by decide) q))).1.trans (f6 a h1 (.inl h2)).1, (w7 a h1 (Nat.lt_trans h2 (Nat.add_lt_add_left (by decide) q))).2.trans (f6 a h1 (.inl h2)).2⟩
  have w5 : ∀ a, a ≠ q → a < q + 25 → T12 a = T5 a ∧ S12 a = S5 a := fun a h1 h2 => ⟨(w6 a h1 (Nat.lt_trans h2 (Nat.add_lt_add_left (by decide) q))).1.trans (f5 a h1 (.inl h2)).1, (w6 a h1 (Nat.lt_trans h2 (Nat.add_lt_add_left (by decide) q))).2.trans (f5 a h1 (.inl h2)).2⟩
  have w4 : ∀ a, a ≠ q → a < q + 17 → T12 a = T4 a ∧ S12 a = S4 a := fun a h1 h2 => ⟨(w5 a h1 (Nat.lt_trans h2 (Nat.add_lt_add_left (by decide) q))).1.trans (f4 a h1 (.inl h2)).1, (w5 a h1 (Nat.lt_trans h2 (Nat.add_lt_add_left (by decide) q))).2.trans (f4 a h1 (.inl h2)).2⟩
  have w3 : ∀ a, a ≠ q → a < q + 9 → T12 a = T3 a ∧ S12 a = S3 a := fun a h1 h2 => ⟨(w4 a h1 (Nat.lt_trans h2 (Nat.add_lt_add_left (by decide) q))).1.trans (f3 a h1 (.inl h2)).1, (w4 a h1 (Nat.lt_trans h2 (Nat.add_lt_add_left (by decide) q))).2.trans (f3 a h1 (.inl h2)).2⟩
  have w2 : ∀ a, a ≠ q → a < q + 6 → T12 a = T2 a ∧ S12 a = S2 a := fun a h1 h2 => ⟨(w3 a h1 (Nat.lt_trans h2 (Nat.add_lt_add_left (by decide) q))).1.trans (f2 a h1 (.inl h2)).1, (w3 a h1 (Nat.lt_trans h2 (Nat.add_lt_add_left (by decide) q))).2.trans (f2 a h1 (.inl h2)).2⟩
  have w1 : ∀ a, a ≠ q → a < q + 3 → T12 a = T1 a ∧ S12 a = S1 a := fun a h1 h2 => ⟨(w2 a h1 (Nat.lt_trans h2 (Nat.add_lt_add_left (by decide) q))).1.trans (f1 a h1 (.inl h2)).1, (w2 a h1 (Nat.lt_trans h2 (Nat.add_lt_add_left (by decide) q))).2.trans (f1 a h1 (.inl h2)).2⟩
  clear gX1 sX1 gX2 sX2 gX3 sX3 gX4 sX4 gX5 sX5 gX6 sX6 gX7 sX7 gX8 sX8 gX9 sX9 gX10 sX10 gX11 sX11 gX12 sX12
  have g0 : ∀ j, 0 < j → q + j ≠ q := fun j hj => Nat.ne_of_gt (Nat.lt_add_of_pos_right hj)
  refine ⟨T12, S12, D3, fun Q hQ => ?_, fun a ha => ?_, t12, by rw [e11, e10, e9, e8, e7, e6, e5, e4, e3, e2, e1, e0, hS], ⟨ly9_eq l0 (fun a h1 h2 => (w1 a (by omega) (by omega)).1), ly5_eq l1 (fun a h1 h2 => (w2 a (by omega) (by omega)).1), ly3_eq l2 (fun a h1 h2 => (w3 a (by omega) (by omega)).1), ly4_eq l3 (fun a h1 h2 => (w4 a (by omega) (by omega)).1), ly4_eq l4 (fun a h1 h2 => (w5 a (by omega) (by omega)).1), ly7_eq l5 (fun a h1 h2 => (w6 a (by omega) (by omega)).1), ly8_eq l6 (fun a h1 h2 => (w7 a (by omega) (by omega)).1), ly8_eq l7 (fun a h1 h2 => (w8 a (by omega) (by omega)).1), ly1_eq l8 (w9 _ (by omega) (by omega)).1, ly6_eq k9 (fun a h1 h2 => (w10 a (by omega) (by omega)).1), ly0_eq l10 (fun a h1 h2 => (w11 a (by omega) (by omega)).1), l11⟩, ⟨(w1 _ (by omega) (by omega)).2.trans xa1, (w1 _ (by omega) (by omega)).2.trans xa2⟩, fun k hk => (w4 _ (by omega) (by omega)).2.trans (xd3 k hk), ⟨?_, ?_, (w7 _ (by omega) (by omega)).2.trans xs62, (w7 _ (by omega) (by omega)).2.trans xs63, (w7 _ (by omega) (by omega)).2.trans xs64, (w7 _ (by omega) (by omega)).2.trans xs65, (w7 _ (by omega) (by omega)).2.trans xs66⟩, ⟨?_, fun j hj => ?_⟩, (w11 _ (by omega) (by omega)).2.trans xe1, fun j hj => ?_⟩
  · exact run0 Q (run1 Q (run2 Q (run3 Q (run4 Q (run5 Q (run6 Q (run7 Q (run8 Q (run9 Q (run10 Q (run11 Q hQ)))))))))))
  · have h1 : a ≠ q := by omega
    refine ⟨?_, ?_⟩
    · rw [(f11 a h1 (by omega)).1, (f10 a h1 (by omega)).1, (f9 a h1 (by omega)).1, (f8 a h1 (by omega)).1, (f7 a h1 (by omega)).1, (f6 a h1 (by omega)).1, (f5 a h1 (by omega)).1, (f4 a h1 (by omega)).1, (f3 a h1 (by omega)).1, (f2 a h1 (by omega)).1, (f1 a h1 (by omega)).1, (f0 a h1 (by omega)).1]
    · rw [(f11 a h1 (by omega)).2, (f10 a h1 (by omega)).2, (f9 a h1 (by omega)).2, (f8 a h1 (by omega)).2, (f7 a h1 (by omega)).2, (f6 a h1 (by omega)).2, (f5 a h1 (by omega)).2, (f4 a h1 (by omega)).2, (f3 a h1 (by omega)).2, (f2 a h1 (by omega)).2, (f1 a h1 (by omega)).2, (f0 a h1 (by omega)).2]
  · rw [(w7 _ (by omega) (by omega)).2]
    exact xs60
  · rw [(w7 _ (by omega) (by omega)).2]
    exact xs61
  · rw [(w10 _ (by omega) (by omega)).2]
    exact xq1
  · rw [(w10 _ (by omega) (by omega)).2]
    exact xq2 j hj
  · rw [(w11 _ (by omega) (by omega)).2]
    exact xe2 j hj
set_option maxHeartbeats 40000000 in
theorem i_X10 (hT : T q = (50, 0)) (hS : S q = df10) (hg : c.1.1 = 0) (hs : c.1.2.1 = q + 1) :
    ∃ T' S' D, px_R 5 101 [.ref q] (zh T S c) (.inl none) (zh T' S' (cX10 c)) ∧ (∀ a, (a < q ∨ q + 148 ≤ a) → T' a = T a ∧ S' a = S a) ∧ cR T' S' q (q + 9) (q + 17) 0 (iniF D) := by
  obtain ⟨T12, S12, D3, run, ff, t12, eq12, ⟨l0, l1, l2, l9, l17, l25, l6, l7, l8, k9, l10, l11⟩, ⟨xa1, xa2⟩, xd3, ⟨xs60, xs61, xs62, xs63, xs64, xs65, xs66⟩, ⟨xq1, xq2⟩, xe1, xe2⟩ := x10_all hT hS hg hs
  obtain ⟨X12, hX12⟩ : ∃ X, cX10 c = X := ⟨_, rfl⟩
  rw [hX12] at run ⊢
  obtain ⟨S13, hS13⟩ : ∃ X, upS S12 q (upz (S12 q) 13 (-1)) = X := ⟨_, rfl⟩
  have o13 : ∀ a, a ≠ q → S13 a = S12 a := fun a h1 => by rw [← hS13, upS_ne h1]
  have q13 : S13 q = upz (S12 q) 13 (-1) := by rw [← hS13, upS_eq]
  have hD : ∀ k, k < 8 → S13 (q + 9 + k) = (rdUsual (rdInit (fun _ => 0, D3, fun _ _ => 0))).2.1 k := fun k hk => by
    rw [o13 _ (by omega)]
    exact xd3 k hk
  have d0 : S13 (q + 9) 0 = ((4 : Nat) : Int) := congrFun (hD 0 (by decide)) 0
  have d1 : S13 (q + 9) 1 = ((6 : Nat) : Int) := congrFun (hD 0 (by decide)) 1
  obtain ⟨S14, r14, f14, p14⟩ := s_layPlain (T := T12) (S := S13) (c := X12) (q := q + 25) (W := 4) (H := 6) l25 (by decide) (by decide)
  have o14 : ∀ a, a ≠ q → (a < q + 25 ∨ q + 33 ≤ a) → S14 a = S12 a := fun a h1 h2 => by rw [f14 a h2, o13 a h1]
  have q14 : S14 q = upz (S12 q) 13 (-1) := by rw [f14 q (by omega), q13]
  have v : ∀ j, j < 14 → S14 q j = if j = 13 then -1 else S12 q j := fun j hj => by
    rw [q14]
    rfl
  have z := zf_10 (T := T12) (S := S14) (c := X12) (q := q) (n := 0) t12 (by rw [v 0 (by decide), eq12]; rfl) (by rw [v 1 (by decide), eq12]; rfl) (by rw [v 2 (by decide), eq12]; rfl) (by rw [v 3 (by decide), eq12]; exact Int.natCast_nonneg _) (by rw [v 4 (by decide), eq12]; exact Int.natCast_nonneg _) (by rw [v 5 (by decide), eq12]; rfl) (by rw [v 6 (by decide), eq12]; rfl) (by rw [v 7 (by decide), eq12]; rfl) (by rw [v 9 (by decide), eq12]; rfl) (by rw [v 10 (by decide), eq12]; rfl) (by rw [v 11 (by decide), eq12]; rfl) (by rw [v 12 (by decide), eq12]; rfl)
  have uT : ∀ a, a ≠ q → (upC T12 q (11, 0)) a = T12 a := fun a h1 => upC_ne h1
  have L10 : ly10 (upC T12 q (11, 0)) q := ⟨upC_eq, ly9_eq l0 (fun a h1 h2 => uT a (by omega)), ly5_eq l1 (fun a h1 h2 => uT a (by omega)), ly3_eq l2 (fun a h1 h2 => uT a (by omega)), ly4_eq l9 (fun a h1 h2 => uT a (by omega)), ly4_eq l17 (fun a h1 h2 => uT a (by omega)), ly7_eq l25 (fun a h1 h2 => uT a (by omega)), ly8_eq l6 (fun a h1 h2 => uT a (by omega)), ly8_eq l7 (fun a h1 h2 => uT a (by omega)), ly1_eq l8 (uT _ (by omega)), ly6_eq k9 (fun a h1 h2 => uT a (by omega)), ly0_eq l10 (fun a h1 h2 => uT a (by omega)), ly2_eq l11 (fun a h1 h2 => uT a (by omega))⟩
  refine ⟨upC T12 q (11, 0), S14, D3, px_ofQ fun Q hQ => ?_, fun a ha => ?_, ⟨L10, .inl ⟨rfl, rfl⟩, by decide, by decide⟩, ⟨by rw [v 3 (by decide), eq12]; rfl, by rw [v 4 (by decide), eq12]; rfl, ?_, ?_⟩, ⟨?_, ⟨trivial, ⟨(show (0 : Nat) ≤ 12 by decide), fun r hr => absurd hr (Nat.not_lt_zero r), fun j hj => (show -1000 ≤ (0 : Int) ∧ (0 : Int) ≤ 1000 by decide)⟩, fun j hj => (show 0 ≤ (0 : Int) ∧ (0 : Int) ≤ 0 by decide)⟩, p14⟩, ⟨?_, ?_, ?_, fun k hk => (show 0 ≤ (0 : Int) ∧ (0 : Int) ≤ 255 by decide), (show 0 ≤ (0 : Int) ∧ (0 : Int) ≤ 500 by decide), ?_, trivial⟩, .inl ⟨?_, rfl⟩, ⟨fun i hi => ?_, .inl ⟨?_, rfl⟩⟩, fun j hj => ?_, .inl ⟨rfl, fun j hj => ?_⟩⟩
  · rw [← z] at hQ
    have fin : px_Ev 5 101 137 [.ref q] [.ref q] (zh T12 S12 X12) Q := by
      have v5 : S13 q 5 = ((q + 25 : Nat) : Int) := by rw [q13, eq12]; rfl
      have v3 : S13 q 3 = ((q + 9 : Nat) : Int) := by rw [q13, eq12]; rfl
      have t9 : T12 (q + 9) = (5, 0) := l9.1
      have t25 : T12 (q + 25) = (8, 0) := l25.1
      have tq : T12 q = (50, 0) := t12
      rw [el_X10_init_137, el_X10_init_138, zo_50 tq, rpf_10_13, zp_50 tq, hS13]
      rw [el_X10_init_141, el_X10_init_142, zo_50 tq, rgf_10_5, v5, rz_nat, el_X10_init_145, el_X10_init_146, zo_50 tq, rgf_10_3, v3, rz_nat, el_X10_init_149, zo_5 t9, gf_4_0, d0, el_X10_init_152, el_X10_init_153, zo_50 tq, rgf_10_3, v3, rz_nat, el_X10_init_156, zo_5 t9, gf_4_1, d1]
      rw [el_X10_init_159 r14 (by decide) (zo_8 t25) rfl]
      rw [show (none : Option Value).toList ++ [] = [] from rfl, el_X10_init_162]
      exact hQ
    have st := run Q fin
    rw [el_X10_init_0, el_X10_init_1, el_X10_init_4]
    exact st
  · have h1 : a ≠ q := by omega
    exact ⟨(uT a h1).trans (ff a ha).1, (o14 a h1 (by omega)).trans (ff a ha).2⟩
  · exact sc_ini (D := D3) (fun k hk => by rw [o14 _ (by omega) (by omega), ← o13 _ (by omega)]; exact hD k hk)
  · intro j hj
    rw [o14 _ (by omega) (by omega), ← o13 _ (by omega)]
    exact hD j hj
  · have ea : ∀ j, j < 6 → S14 (q + 34 + j) = S12 (q + 34 + j) := fun j hj => by rw [o14 _ (by omega) (by omega)]
    have e0 := ea 0 (by decide)
    rw [Nat.add_zero] at e0
    refine ⟨⟨by rw [e0]; exact xs60, fun j hj => absurd hj (Nat.not_lt_zero j)⟩, ⟨by rw [e0]; exact xs61, fun j hj => ?_, fun j hj => ?_⟩, fun j hj => ?_⟩
    · rw [ea 4 (by decide), xs65]
      rfl
    · rw [ea 5 (by decide), xs66]
      rfl
    · rw [ea 3 (by decide), xs64]
      rfl
  · rw [o14 _ (by omega) (by omega), xa1]
    rfl
  · rw [o14 _ (by omega) (by omega)]
    exact xa2
  · rw [o14 _ (by omega) (by omega), xa1]
    unfold tpF
    simp (disch := omega) only [upz_ne]
    decide
  · rw [v 13 (by decide)]
    rfl
  · rw [v 8 (by decide), eq12]
    rfl
  · rw [o14 _ (by omega) (by omega)]
    exact xq2 i hi
  · rw [o14 _ (by omega) (by omega)]
    exact xq1
  · rw [o14 _ (by omega) (by omega)]
    exact xe2 j hj
  · rw [o14 _ (by omega) (by omega)]
    exact congrFun xe1 j
end MAKE
