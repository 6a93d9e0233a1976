/-! THE LAW, 6: counters, the loop, the start -/
/-- only counted on: j cells of n slots -/
def nB (c d : pm_M × pm_C) (j n : Nat) : Prop := d.2 = c.2 ∧ d.1.1 = c.1.1 ∧ d.1.2.1 = c.1.2.1 + j ∧ d.1.2.2.1 = c.1.2.2.1 + j ∧ d.1.2.2.2 = c.1.2.2.2 + n
theorem nB.rf {c : pm_M × pm_C} : nB c c 0 0 := ⟨rfl, rfl, rfl, rfl, rfl⟩
theorem nB.tr {c d e : pm_M × pm_C} {j n j' n' : Nat} (h : nB c d j n) (g : nB d e j' n') : nB c e (j + j') (n + n') := by
  obtain ⟨h1, h2, h3, h4, h5⟩ := h
  obtain ⟨g1, g2, g3, g4, g5⟩ := g
  exact ⟨g1.trans h1, g2.trans h2, by rw [g3, h3, Nat.add_assoc], by rw [g4, h4, Nat.add_assoc], by rw [g5, h5, Nat.add_assoc]⟩
theorem nB.nc {c d : pm_M × pm_C} {j n : Nat} (h : nB c d j n) (k : Nat) : nB c (nc d k) (j + 1) (n + k) := h.tr ⟨rfl, rfl, rfl, rfl, rfl⟩
theorem nB.to {c d : pm_M × pm_C} {j n j' n' : Nat} (h : nB c d j n) (h1 : j = j') (h2 : n = n') : nB c d j' n' := by
  subst h1
  subst h2
  exact h
theorem nB_nc4 {c : pm_M × pm_C} : nB c (nc4 c) 7 70 := by
  unfold nc4
  have h := nB.rf (c := c)
  have h := h.nc 10
  have h := h.nc 10
  have h := h.nc 10
  have h := h.nc 10
  have h := h.nc 10
  have h := h.nc 10
  have h := h.nc 10
  exact h.to (by decide) (by decide)
theorem nB_nc7 {c : pm_M × pm_C} : nB c (nc7 c) 8 512 := by
  unfold nc7
  have h := nB.rf (c := c)
  have h := h.nc 64
  have h := h.nc 64
  have h := h.nc 64
  have h := h.nc 64
  have h := h.nc 64
  have h := h.nc 64
  have h := h.nc 64
  have h := h.nc 64
  exact h.to (by decide) (by decide)
theorem nB_ncL : ∀ (t : Nat) (c : pm_M × pm_C), nB c (ncL t c) (9 * t) (525 * t)
  | 0, c => nB.rf
  | t + 1, c => by
    have h := nB_ncL t (nc7 (nc c 13))
    unfold ncL
    exact (((nB.rf.nc 13).tr nB_nc7).tr h).to (by omega) (by omega)
theorem nB_cX6 {c : pm_M × pm_C} : nB c (cX6 c) 76 3514 := by
  unfold cX6
  have h := nB.rf (c := c)
  have h := h.nc 4
  have h := h.nc 4
  have h := h.nc 4
  have h := h.nc 5
  have h := h.nc 170
  have h := h.nc 9
  have h := h.nc 14
  have h := h.tr nB_nc4
  have h := h.nc 14
  have h := h.tr nB_nc4
  have h := h.nc 13
  have h := h.tr nB_nc7
  have h := h.tr (nB_ncL 5 _)
  exact h.to (by decide) (by decide)
theorem nB_cX10 {c : pm_M × pm_C} : nB c (cX10 c) 147 6294 := by
  unfold cX10
  have h := nB.rf (c := c)
  have h := h.nc 9
  have h := h.nc 500
  have h := h.nc 5
  have h := h.nc 10
  have h := h.nc 10
  have h := h.nc 3
  have h := h.nc 500
  have h := h.nc 500
  have h := h.nc 14
  have h := h.tr nB_nc4
  have h := h.nc 14
  have h := h.tr nB_nc4
  have h := h.nc 13
  have h := h.tr nB_nc7
  have h := h.nc 7
  have h := h.nc 14
  have h := h.nc 14
  have h := h.nc 3
  have h := h.nc 12
  have h := h.nc 48
  have h := h.nc 7
  have h := h.nc 14
  have h := h.nc 14
  have h := h.nc 3
  have h := h.nc 12
  have h := h.nc 48
  have h := h.nc 9
  have h := h.nc 14
  have h := h.tr nB_nc4
  have h := h.nc 17
  have h := h.tr nB_cX6
  have h := h.nc 6
  have h := h.nc 10
  have h := h.nc 10
  have h := h.nc 7
  have h := h.nc 7
  have h := h.nc 7
  have h := h.nc 7
  have h := h.nc 7
  have h := h.nc 7
  have h := h.nc 7
  have h := h.nc 7
  have h := h.nc 7
  have h := h.nc 128
  have h := h.nc 3
  have h := h.nc 12
  have h := h.nc 12
  exact h.to (by decide) (by decide)
theorem nB_cg0 {c : pm_M × pm_C} : nB c (cg0 c) 6 120 := by
  unfold cg0
  have h := nB.rf (c := c)
  have h := h.nc 20
  have h := h.nc 20
  have h := h.nc 20
  have h := h.nc 20
  have h := h.nc 20
  have h := h.nc 20
  exact h.to (by decide) (by decide)
theorem nB_cg1 {c : pm_M × pm_C} : nB c (cg1 c) 5 1007 := by
  unfold cg1
  have h := nB.rf (c := c)
  have h := h.nc 3
  have h := h.nc 500
  have h := h.nc 500
  have h := h.nc 2
  have h := h.nc 2
  exact h.to (by decide) (by decide)
theorem nB_cg2 {c : pm_M × pm_C} : nB c (cg2 c) 6 768 := by
  unfold cg2
  have h := nB.rf (c := c)
  have h := h.nc 128
  have h := h.nc 128
  have h := h.nc 128
  have h := h.nc 128
  have h := h.nc 128
  have h := h.nc 128
  exact h.to (by decide) (by decide)
theorem nB_cg3 {c : pm_M × pm_C} : nB c (cg3 c) 5 152 := by
  unfold cg3
  have h := nB.rf (c := c)
  have h := h.nc 64
  have h := h.nc 64
  have h := h.nc 16
  have h := h.nc 4
  have h := h.nc 4
  exact h.to (by decide) (by decide)
theorem nB_cg4 {c : pm_M × pm_C} : nB c (cg4 c) 6 154 := by
  unfold cg4
  have h := nB.rf (c := c)
  have h := h.nc 70
  have h := h.nc 7
  have h := h.nc 7
  have h := h.nc 10
  have h := h.nc 48
  have h := h.nc 12
  exact h.to (by decide) (by decide)
theorem nB_cg5 {c : pm_M × pm_C} : nB c (cg5 c) 5 91 := by
  unfold cg5
  have h := nB.rf (c := c)
  have h := h.nc 12
  have h := h.nc 16
  have h := h.nc 48
  have h := h.nc 12
  have h := h.nc 3
  exact h.to (by decide) (by decide)
theorem nB_cX11 {c : pm_M × pm_C} : nB c (cX11 c) 35 2310 := by
  unfold cX11
  have h := nB.rf (c := c)
  have h := h.nc 4
  have h := h.nc 14
  have h := h.tr nB_cg0
  have h := h.tr nB_cg1
  have h := h.tr nB_cg2
  have h := h.tr nB_cg3
  have h := h.tr nB_cg4
  have h := h.tr nB_cg5
  exact h.to (by decide) (by decide)
theorem ly10_eq {T T' : Nat → Nat × Nat} {q : Nat} (h : ly10 T q) (e : ∀ a, q ≤ a → a < q + 148 → T' a = T a) : ly10 T' q := by
  obtain ⟨h0, h1, h3, h6, h9, h17, h25, h34, h40, h46, h55, h132, h145⟩ := h
  exact ⟨(e q (by omega) (by omega)).trans h0, ly9_eq h1 (fun a h1 h2 => e a (by omega) (by omega)), ly5_eq h3 (fun a h1 h2 => e a (by omega) (by omega)), ly3_eq h6 (fun a h1 h2 => e a (by omega) (by omega)), ly4_eq h9 (fun a h1 h2 => e a (by omega) (by omega)), ly4_eq h17 (fun a h1 h2 => e a (by omega) (by omega)), ly7_eq h25 (fun a h1 h2 => e a (by omega) (by omega)), ly8_eq h34 (fun a h1 h2 => e a (by omega) (by omega)), ly8_eq h40 (fun a h1 h2 => e a (by omega) (by omega)), ly1_eq h46 (e _ (by omega) (by omega)), ly6_eq h55 (fun a h1 h2 => e a (by omega) (by omega)), ly0_eq h132 (fun a h1 h2 => e a (by omega) (by omega)), ly2_eq h145 (fun a h1 h2 => e a (by omega) (by omega))⟩
theorem ly11_eq {T T' : Nat → Nat × Nat} {q : Nat} (h : ly11 T q) (e : ∀ a, q ≤ a → a < q + 36 → T' a = T a) : ly11 T' q := by
  obtain ⟨h0, h1, h2, h3, h4, h5, h6, h7, h8, h9, h10, h11, h12, h13, h14, h15, h16, h17, h18, h19, h20, h21, h22, h23, h24, h25, h26, h27, h28, h29, h30, h31, h32, h33, h34, h35⟩ := h
  exact ⟨(e _ (by omega) (by omega)).trans h0, (e _ (by omega) (by omega)).trans h1, (e _ (by omega) (by omega)).trans h2, (e _ (by omega) (by omega)).trans h3, (e _ (by omega) (by omega)).trans h4, (e _ (by omega) (by omega)).trans h5, (e _ (by omega) (by omega)).trans h6, (e _ (by omega) (by omega)).trans h7, (e _ (by omega) (by omega)).trans h8, (e _ (by omega) (by omega)).trans h9, (e _ (by omega) (by omega)).trans h10, (e _ (by omega) (by omega)).trans h11, (e _ (by omega) (by omega)).trans h12, (e _ (by omega) (by omega)).trans h13, (e _ (by omega) (by omega)).trans h14, (e _ (by omega) (by omega)).trans h15, (e _ (by omega) (by omega)).trans h16, (e _ (by omega) (by omega)).trans h17, (e _ (by omega) (by omega)).trans h18, (e _ (by omega) (by omega)).trans h19, (e _ (by omega) (by omega)).trans h20, (e _ (by omega) (by omega)).trans h21, (e _ (by omega) (by omega)).trans h22, (e _ (by omega) (by omega)).trans h23, (e _ (by omega) (by omega)).trans h24, (e _ (by omega) (by omega)).trans h25, (e _ (by omega) (by omega)).trans h26, (e _ (by omega) (by omega)).trans h27, (e _ (by omega) (by omega)).trans h28, (e _ (by omega) (by omega)).trans h29, (e _ (by omega) (by omega)).trans h30, (e _ (by omega) (by omega)).trans h31, (e _ (by omega) (by omega)).trans h32, (e _ (by omega) (by omega)).trans h33, (e _ (by omega) (by omega)).trans h34, (e _ (by omega) (by omega)).trans h35⟩
theorem cR.keepT {T T' : Nat → Nat × Nat} {S : Nat → Nat → Int} {x sA sB : Nat} {k : Int} {F : fS} (h : cR T S x sA sB k F) (e : ∀ a, x ≤ a → a < x + 148 → T' a = T a) : cR T' S x sA sB k F := ⟨⟨ly10_eq h.1.1 e, h.1.2⟩, h.2⟩
theorem mR.keepT {T T' : Nat → Nat × Nat} {S : Nat → Nat → Int} {m : Nat} {F : fS} (h : mR T S m F) (e : ∀ a, m ≤ a → a < m + 36 → T' a = T a) : mR T' S m F := ⟨ly11_eq h.1 e, h.2⟩
section LAW
variable {T : Nat → Nat × Nat} {S : Nat → Nat → Int} {c : pm_M × pm_C} {s x m a : Nat} {k i : Int} {l5 l6 : Value}
theorem br_none (h : lwI T S c.2 x m a k) : lwB T S c s x m a k i l5 l6 1492 := ⟨S, c, k, l5, l6, fun Q hQ => hQ, h, by omega, Or.inl rfl⟩
theorem br_any {v : Int32} (h : lwI T S c.2 x m a k) (hk : k + 1 ≤ 50000) (hC : tcx c.2) (hs : s = c.2.1.1) (hb : ∀ j : Int, 0 ≤ j ∧ j ≤ 5 → 0 ≤ i + j ∧ i + j < c.2.1.2.1 ∧ i + j ≤ 2147483647) : lwB T S c s x m a k i l5 l6 (ps_tgt (0) (21) [144, 217, 273, 329, 342, 398, 466, 534, 547, 627, 723, 831, 951, 1031, 1087, 1155, 1239, 1295, 1351, 1412, 1468, 1479] 1492 v) := by
  unfold ps_tgt
  split
  · exact br_none h
  · rename_i q
    obtain ⟨j, hj⟩ : ∃ j : Nat, (v.toInt - 0).toNat = j := ⟨_, rfl⟩
    rw [hj]
    rcases (show j = 0 ∨ j = 1 ∨ j = 2 ∨ j = 3 ∨ j = 4 ∨ j = 5 ∨ j = 6 ∨ j = 7 ∨ j = 8 ∨ j = 9 ∨ j = 10 ∨ j = 11 ∨ j = 12 ∨ j = 13 ∨ j = 14 ∨ j = 15 ∨ j = 16 ∨ j = 17 ∨ j = 18 ∨ j = 19 ∨ j = 20 ∨ j = 21 by omega) with rfl | rfl | rfl | rfl | rfl | rfl | rfl | rfl | rfl | rfl | rfl | rfl | rfl | rfl | rfl | rfl | rfl | rfl | rfl | rfl | rfl | rfl
    · exact br_feed h hk hC hs hb
    · exact br_school h hk hC hs hb
    · exact br_row h hk hC hs hb
    · exact br_fault h hk hC hs hb
    · exact br_count h hk hC hs hb
    · exact br_table h hk hC hs hb
    · exact br_fold h hk hC hs hb
    · exact br_undo h hk hC hs hb
    · exact br_layer h hk hC hs hb
    · exact br_crease h hk hC hs hb
    · exact br_flight h hk hC hs hb
    · exact br_step h hk hC hs hb
    · exact br_best h hk hC hs hb
    · exact br_found h hk hC hs hb
    · exact br_mean h hk hC hs hb
    · exact br_rows h hk hC hs hb
    · exact br_evening h hk hC hs hb
    · exact br_trim h hk hC hs hb
    · exact br_teach h hk hC hs hb
    · exact br_taught h hk hC hs hb
    · exact br_image h hk hC hs hb
    · exact br_restore h hk hC hs hb
theorem lw_loop {n : Nat} : ∀ (t : Nat) (i k : Int) (S : Nat → Nat → Int) (c : pm_M × pm_C) (l5 l6 : Value), lwI T S c.2 x m a k → k + t ≤ 50000 → tcx c.2 → s = c.2.1.1 → c.2.1.2.1 = n → n ≤ 3072 → 0 ≤ i → (n : Int) < i + 6 * t + 6 → i ≤ 3072 →
    ∃ S' c', (∀ Q : pm_O → pm_H → Prop, Q (.inl (some (.int (zI 1)))) (zh T S' c') → px_Ev 13 224 23 [.ref s, .ref x, .ref m, .ref a, .int (zI i), l5, l6] [] (zh T S c) Q) ∧ c'.1.2.2.1 ≤ c.1.2.2.1 + t ∧ c'.1.2.2.2 ≤ c.1.2.2.2 + 6 * t := by
  intro t
  induction t with
  | zero =>
    intro i k S c l5 l6 h hk hC hs hn hn3 hi hni hi3
    have g : (n : Int) - 6 < i := by omega
    refine ⟨S, c, fun Q hQ => ?_, by omega, by omega⟩
    rw [el_L_law_23, el_L_law_25, el_L_law_26 (h := zh T S c) hs, zh_cst, hn, el_L_law_27, el_L_law_29, el_L_law_30 ⟨by omega, by omega⟩, if_pos g, el_L_law_1498, el_L_law_1499 (Or.inr rfl)]
    exact hQ
  | succ t ih =>
    intro i k S c l5 l6 h hk hC hs hn hn3 hi hni hi3
    by_cases g : (n : Int) - 6 < i
    · refine ⟨S, c, fun Q hQ => ?_, by omega, by omega⟩
      rw [el_L_law_23, el_L_law_25, el_L_law_26 (h := zh T S c) hs, zh_cst, hn, el_L_law_27, el_L_law_29, el_L_law_30 ⟨by omega, by omega⟩, if_pos g, el_L_law_1498, el_L_law_1499 (Or.inr rfl)]
      exact hQ
    · obtain ⟨S1, c1, k1, m5, m6, run, h1, hk1, hc1⟩ := br_any (s := s) (i := i) (l5 := l5) (l6 := l6) (v := c.2.1.2.2 i.toNat &&& zI 31) h (by omega) hC hs (fun j hj => by rw [hn]; omega)
      have hc2 : c1.2 = c.2 := by rcases hc1 with rfl | rfl <;> rfl
      have hcc : c1.1.2.2.1 ≤ c.1.2.2.1 + 1 ∧ c1.1.2.2.2 ≤ c.1.2.2.2 + 6 := by
        rcases hc1 with rfl | rfl
        · omega
        · exact ⟨Nat.le_refl _, Nat.le_refl _⟩
      obtain ⟨S2, c2, run2, q1, q2⟩ := ih (i + 6) k1 S1 c1 m5 m6 (by rw [hc2]; exact h1) (by omega) (by rw [hc2]; exact hC) (by rw [hc2]; exact hs) (by rw [hc2]; exact hn) hn3 (by omega) (by omega) (by omega)
      refine ⟨S2, c2, fun Q hQ => ?_, by omega, by omega⟩
      have hb : 0 ≤ i ∧ i < (c.2.1.2.1 : Nat) ∧ i ≤ 2147483647 := by rw [hn]; omega
      rw [el_L_law_23, el_L_law_25, el_L_law_26 (h := zh T S c) hs, zh_cst, hn, el_L_law_27, el_L_law_29, el_L_law_30 ⟨by omega, by omega⟩, if_neg g, el_L_law_33, el_L_law_34, el_L_law_36 (h := zh T S c) hs hb, zh_cst, el_L_law_37, el_L_law_39, el_L_law_40]
      refine run Q ?_
      rw [el_L_law_1492, el_L_law_1495]
      exact run2 Q hQ
theorem law_17 {d : Nat} {ls st : List Value} {Q : pm_O → pm_H → Prop} (hg : c.1.1 = 0) : px_Ev d 224 17 ls (.int (zI 1) :: st) (zh T S c) Q = px_Ev d 224 19 ls (.ref c.1.2.1 :: st) (zh (upC T c.1.2.1 (23, 1)) (upS S c.1.2.1 (fun _ => 0)) (nc c 1)) Q := by
  refine px_nx ((congrFun pq_L_law 17).trans rfl) ?_
  have e1 : (zI 1).toInt = 1 := by decide
  have e2 : (zI 1).toNatClampNeg = 1 := by decide
  have e3 : ps_zero 3 = .inr (.inl (fun _ => (0 : Int64))) := rfl
  have z : Int64.ofInt 0 = 0 := by decide
  have e4 : zc (23, 1) c.1.2.1 (fun _ => 0) = some (.inl (3, 1, .inr (.inl (fun _ => (0 : Int64))))) := by
    rw [← z]
    rfl
  simp only [ps_newa]
  rw [if_pos ⟨hg, by rw [e1]; decide, by rw [e1]; decide⟩, e2, e3, zn_at e4]
  rfl
end LAW
/-- the whole law, from an empty heap -/
theorem law_run {s b : Nat} {C : pm_C} {T : Nat → Nat × Nat} {S : Nat → Nat → Int} (hC : tcx C) (hs : s = C.1.1) (hn : C.1.2.1 ≤ 3072) : ∃ T' S' c', px_R 13 224 [.ref s, .retAddr 0, .retAddr 0, .retAddr 0, .retAddr 0, .retAddr 0, .retAddr 0] (zh T S ((0, b, 0, 0), C)) (.inl (some (.int (zI 1)))) (zh T' S' c') ∧ c'.1.2.2.1 ≤ 601024 ∧ c'.1.2.2.2 ≤ 7293034 := by
  obtain ⟨c, hc⟩ : ∃ c : pm_M × pm_C, ((0, b, 0, 0), C) = c := ⟨_, rfl⟩
  have g0 : c.1.1 = 0 := by rw [← hc]
  have b0 : c.1.2.1 = b := by rw [← hc]
  have k0 : c.1.2.2.1 = 0 := by rw [← hc]
  have n0 : c.1.2.2.2 = 0 := by rw [← hc]
  have d0 : c.2 = C := by rw [← hc]
  rw [hc]
  clear hc
  obtain ⟨c0, e0⟩ : ∃ X, nc c 14 = X := ⟨_, rfl⟩
  have B0 : nB c c0 1 14 := by rw [← e0]; exact (nB.rf.nc 14).to rfl rfl
  obtain ⟨T1, S1, D, r1, f1, R1⟩ := i_X10 (T := upC T b (50, 0)) (S := upS S b df10) (c := c0) (q := b) upC_eq upS_eq (B0.2.1.trans g0) (by rw [B0.2.2.1, b0])
  obtain ⟨c1, e1⟩ : ∃ X, cX10 c0 = X := ⟨_, rfl⟩
  have B1 : nB c c1 (1 + 147) (14 + 6294) := by rw [← e1]; exact B0.tr nB_cX10
  rw [e1] at r1
  obtain ⟨c2, e2⟩ : ∃ X, nc c1 66 = X := ⟨_, rfl⟩
  have B2 : nB c c2 (1 + 147 + 1) (14 + 6294 + 66) := by rw [← e2]; exact B1.nc 66
  obtain ⟨T2, S2, r2, f2, R2, hsd⟩ := i_X11 (T := upC T1 (b + 148) (51, 0)) (S := upS S1 (b + 148) df11) (c := c2) (q := b + 148) D upC_eq upS_eq (B2.2.1.trans g0) (by rw [B2.2.2.1, b0]) (by rw [B2.1, d0]; exact hC)
  obtain ⟨c3, e3⟩ : ∃ X, cX11 c2 = X := ⟨_, rfl⟩
  have B3 : nB c c3 (1 + 147 + 1 + 35) (14 + 6294 + 66 + 2310) := by rw [← e3]; exact B2.tr nB_cX11
  rw [e3] at r2
  obtain ⟨c4, e4⟩ : ∃ X, nc c3 1 = X := ⟨_, rfl⟩
  have B4 : nB c c4 (1 + 147 + 1 + 35 + 1) (14 + 6294 + 66 + 2310 + 1) := by rw [← e4]; exact B3.nc 1
  have f0 := R1.fI
  have a1 : c1.1.2.1 = b + 148 := by rw [B1.2.2.1, b0]
  have a3 : c3.1.2.1 = b + 184 := by rw [B3.2.2.1, b0]
  have q2 : ∀ y, y < b + 148 → T2 y = T1 y ∧ S2 y = S1 y := fun y hy => by rw [(f2 y (Or.inl hy)).1, (f2 y (Or.inl hy)).2, upC_ne (by omega), upS_ne (by omega)]; exact ⟨rfl, rfl⟩
  have R1' : cR (upC T2 (b + 184) (23, 1)) (upS S2 (b + 184) (fun _ => 0)) b (b + 9) (b + 17) 0 (iniF D) := (R1.keepT (T' := upC T2 (b + 184) (23, 1)) (fun y h1 h2 => by rw [upC_ne (by omega)]; exact (q2 y (by omega)).1)).keep (fun y h1 h2 => by rw [upS_ne (by omega)]; exact (q2 y (by omega)).2)
  have R2' : mR (upC T2 (b + 184) (23, 1)) (upS S2 (b + 184) (fun _ => 0)) (b + 148) (iniF D) := (R2.keepT (T' := upC T2 (b + 184) (23, 1)) (fun y h1 h2 => upC_ne (by omega))).keep f0 (fun y h1 h2 => upS_ne (by omega))
  obtain ⟨S9, c9, run, z1, z2⟩ := lw_loop (T := upC T2 (b + 184) (23, 1)) (s := s) (x := b) (m := b + 148) (a := b + 184) (n := C.1.2.1) 512 0 0 (upS S2 (b + 184) (fun _ => 0)) c4 (.retAddr 0) (.retAddr 0)
    ⟨iniF D, b + 9, b + 17, R1', R2', fun j hj => by rw [upS_ne (by omega), hsd j hj, B2.1, B4.1], upC_eq, by omega, by omega⟩ (by omega) (by rw [B4.1, d0]; exact hC) (by rw [B4.1, d0]; exact hs) (by rw [B4.1, d0]) hn (by decide) (by omega) (by decide)
  have z3 := B4.2.2.2.1
  have z4 := B4.2.2.2.2
  refine ⟨upC T2 (b + 184) (23, 1), S9, c9, px_ofQ fun Q hQ => ?_, by omega, by omega⟩
  rw [el_L_law_0 (h := zh T S c) g0, zn_50, zs_h, b0, e0, el_L_law_3, el_L_law_4 r1 (by decide) (zo_50 upC_eq) rfl, tl_none, el_L_law_7, el_L_law_8 (h := zh T1 S1 c1) (B1.2.1.trans g0), zn_51, zs_h, a1, e2, el_L_law_11, el_L_law_12 r2 (by decide) (zo_51 upC_eq) rfl, tl_none, el_L_law_15, el_L_law_16, law_17 (B3.2.1.trans g0), a3, e4, el_L_law_19, el_L_law_20, el_L_law_21]
  exact run Q hQ
