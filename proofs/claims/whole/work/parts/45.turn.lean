/-! turnOver, where it is done -/
theorem mvF_01 {Z z : Nat → Int} {e f : Int} {n : Nat} : ∀ c, c < n → mvF Z e f z n c = 0 ∨ mvF Z e f z n c = 1 := by
  intro c hc
  unfold mvF
  rw [if_pos hc]
  split
  · exact .inr rfl
  · exact .inl rfl
/-- the cells of a sheet behind a fold; kk the place of what is moved (2, 3) -/
def tuM (S : Nat → Nat → Int) (q n kk : Nat) (ff edge : Int) : Nat → Int := mvF (S (q + kk)) edge ff (S (q + 8)) n
def tuX (S : Nat → Nat → Int) (q n kk : Nat) (ff edge up : Int) : Nat → Int := tcS n (tuM S q n kk ff edge) (fun j => if up = 1 then 2 * edge - 1 - S (q + 2) j else S (q + 2) j) (S (q + 2))
def tuY (S : Nat → Nat → Int) (q n kk : Nat) (ff edge up : Int) : Nat → Int := tcS n (tuM S q n kk ff edge) (fun j => if up = 1 then S (q + 3) j else 2 * edge - 1 - S (q + 3) j) (S (q + 3))
def tuL (S : Nat → Nat → Int) (q n kk : Nat) (ff edge up : Int) : Nat → Int := tcS n (tuM S q n kk ff edge) (fun j => wAt (S (q + 7)) (if up = 1 then 2 * edge - 1 - S (q + 2) j else S (q + 2) j) (if up = 1 then S (q + 3) j else 2 * edge - 1 - S (q + 3) j) + (wAt (S (q + 7)) (S (q + 2) j) (S (q + 3) j) - 1 - S (q + 4) j)) (S (q + 4))
def ch9 (S : Nat → Nat → Int) (q : Nat) (F b x y l R D w μ : Nat → Int) : Nat → Nat → Int := upS (upS (upS (upS (upS (upS (upS (upS (upS S q F) (q + 1) b) (q + 2) x) (q + 3) y) (q + 4) l) (q + 5) R) (q + 6) D) (q + 7) w) (q + 8) μ
def tuA (S : Nat → Nat → Int) (q n kk : Nat) (ff edge up m : Int) : Nat → Int := if up = 1 ∧ ff = 1 then nfS n m (tuX S q n kk ff edge up) else tuX S q n kk ff edge up
def tuB (S : Nat → Nat → Int) (q n kk : Nat) (ff edge up m : Int) : Nat → Int := if up = 0 ∧ ff = 1 then nfS n m (tuY S q n kk ff edge up) else tuY S q n kk ff edge up
def tuS (S : Nat → Nat → Int) (q n w kk : Nat) (ff edge up m : Int) : Nat → Nat → Int :=
  ch9 S q (upz (upz (upz (S q) 2 (S q 2 - (if up = 1 then m else 0))) 3 (S q 3 - (if up = 1 then 0 else m))) 4 (S q 4 + 1)) (tcS n (tuM S q n kk ff edge) (fun j => 1 - S (q + 1) j) (S (q + 1))) (tuA S q n kk ff edge up m) (tuB S q n kk ff edge up m) (tuL S q n kk ff edge up)
    (crR w (tuM S q n kk ff edge) (S (q + 1)) (S q 4) (S (q + 5)) n) (crD w n (tuM S q n kk ff edge) (S (q + 1)) (S q 4) (S (q + 6)) n) (wgt (zro (S (q + 7))) (tuA S q n kk ff edge up m) (tuB S q n kk ff edge up m) n) (tuM S q n kk ff edge)
theorem turn_tail {T : Nat → Nat × Nat} {S : Nat → Nat → Int} {c : pm_M × pm_C} {q n w kk : Nat} {sd m up ff edge ac : Int} {Q : pm_O → pm_H → Prop} (hq : ly7 T q) (ho : sh_ok (S q) n) (hw : (w : Int) = S q 0) (h4 : 0 ≤ S q 4 ∧ S q 4 ≤ 20)
    (hk : (up = 1 ∧ kk = 2) ∨ (up = 0 ∧ kk = 3)) (hff : ff = 0 ∨ ff = 1) (he : 0 ≤ edge ∧ edge ≤ 8) (hm : 0 ≤ m ∧ m ≤ 8)
    (hb : ∀ c, c < n → 0 ≤ S (q + 1) c ∧ S (q + 1) c ≤ 1) (hp : ∀ c, c < n → (0 ≤ S (q + 2) c ∧ S (q + 2) c < 8) ∧ 0 ≤ S (q + 3) c ∧ S (q + 3) c < 8)
    (ho' : sh_ok (upz (upz (upz (S q) 2 (S q 2 - (if up = 1 then m else 0))) 3 (S q 3 - (if up = 1 then 0 else m))) 4 (S q 4 + 1)) n)
    (hp' : ∀ c, c < n → (0 ≤ tuA S q n kk ff edge up m c ∧ tuA S q n kk ff edge up m c < S q 2 - (if up = 1 then m else 0)) ∧ 0 ≤ tuB S q n kk ff edge up m c ∧ tuB S q n kk ff edge up m c < S q 3 - (if up = 1 then 0 else m))
    (hQ : Q (.inl (some (.int (zI 1)))) (zh T (tuS S q n w kk ff edge up m) c)) :
    px_Ev 3 61 74 [.ref q, .int (zI sd), .int (zI m), .int (zI up), .int (zI ff), .int (zI ac), .int (zI edge)] [] (zh T S c) Q := by
  obtain ⟨t0, t1, t2, t3, t4, t5, t6, t7, t8⟩ := id hq
  have hk' : kk = 2 ∨ kk = 3 := by omega
  have m01 : ∀ c, c < n → tuM S q n kk ff edge c = 0 ∨ tuM S q n kk ff edge c = 1 := fun c hc => mvF_01 c hc
  have h1 := z_markMoving (T := T) (S := S) (c := c) (k := kk) (n := n) (edge := edge) (ff := ff) hq ho hk' (fun c hc => by
    have := hp c hc
    rcases hk' with rfl | rfl <;> omega) he hff
  have eM : mvF (S (q + kk)) edge ff (S (q + 8)) n = tuM S q n kk ff edge := rfl
  rw [eM] at h1
  have h2 := z_addCreases (T := T) (S := upS S (q + 8) (tuM S q n kk ff edge)) (c := c) (q := q) (n := n) (w := w) hq (by rw [upS_ne (by omega)]; exact ho) (by rw [upS_ne (by omega)]; exact hw) (by rw [upS_ne (by omega)]; exact h4) (fun c hc => by rw [upS_ne (by omega)]; exact hb c hc) (fun c hc => by rw [upS_eq]; have := m01 c hc; omega)
  simp (disch := omega) only [upS_eq, upS_ne] at h2
  generalize hR : crR w (tuM S q n kk ff edge) (S (q + 1)) (S q 4) (S (q + 5)) n = R at *
  generalize hD : crD w n (tuM S q n kk ff edge) (S (q + 1)) (S q 4) (S (q + 6)) n = D at *
  have h3 := z_turnCells (T := T) (S := upS (upS (upS S (q + 5) R) (q + 6) D) (q + 8) (tuM S q n kk ff edge)) (c := c) (q := q) (n := n) (up := up) (edge := edge) hq (by simp (disch := omega) only [upS_ne]; exact ho) (by omega) he (fun c hc => by simp (disch := omega) only [upS_ne]; exact hp c hc) (fun c hc => by rw [upS_eq]; exact m01 c hc)
  simp (disch := omega) only [upS_eq, upS_ne] at h3
  have eX : tcS n (tuM S q n kk ff edge) (fun j => if up = 1 then 2 * edge - 1 - S (q + 2) j else S (q + 2) j) (S (q + 2)) = tuX S q n kk ff edge up := rfl
  have eY : tcS n (tuM S q n kk ff edge) (fun j => if up = 1 then S (q + 3) j else 2 * edge - 1 - S (q + 3) j) (S (q + 3)) = tuY S q n kk ff edge up := rfl
  have eL : tcS n (tuM S q n kk ff edge) (fun j => wAt (S (q + 7)) (if up = 1 then 2 * edge - 1 - S (q + 2) j else S (q + 2) j) (if up = 1 then S (q + 3) j else 2 * edge - 1 - S (q + 3) j) + (wAt (S (q + 7)) (S (q + 2) j) (S (q + 3) j) - 1 - S (q + 4) j)) (S (q + 4)) = tuL S q n kk ff edge up := rfl
  rw [eX, eY, eL] at h3
  unfold tuS ch9 at hQ
  rw [hR, hD] at hQ
  generalize hL : tuL S q n kk ff edge up = L at *
  generalize hBk : tcS n (tuM S q n kk ff edge) (fun j => 1 - S (q + 1) j) (S (q + 1)) = Bk at *
  have h4' := z_numberFrom (T := T) (S := upS (upS (upS (upS (upS (upS (upS S (q + 1) Bk) (q + 2) (tuX S q n kk ff edge up)) (q + 3) (tuY S q n kk ff edge up)) (q + 4) L) (q + 5) R) (q + 6) D) (q + 8) (tuM S q n kk ff edge)) (c := c) (q := q) (n := n) (k := kk) (m := m) hq (by simp (disch := omega) only [upS_ne]; exact ho) hk'
  have h5 := z_weigh (T := T) (S := upS (upS (upS (upS (upS (upS (upS (upS S q (upz (upz (upz (S q) 2 (S q 2 - (if up = 1 then m else 0))) 3 (S q 3 - (if up = 1 then 0 else m))) 4 (S q 4 + 1))) (q + 1) Bk) (q + 2) (tuA S q n kk ff edge up m)) (q + 3) (tuB S q n kk ff edge up m)) (q + 4) L) (q + 5) R) (q + 6) D) (q + 8) (tuM S q n kk ff edge)) (c := c) (q := q) (n := n) hq (by simp (disch := omega) only [upS_ne, upS_eq]; exact ho') (fun c hc => by
    simp (disch := omega) only [upS_ne, upS_eq]
    have e2 : upz (upz (upz (S q) 2 (S q 2 - (if up = 1 then m else 0))) 3 (S q 3 - (if up = 1 then 0 else m))) 4 (S q 4 + 1) 2 = S q 2 - (if up = 1 then m else 0) := rfl
    have e3 : upz (upz (upz (S q) 2 (S q 2 - (if up = 1 then m else 0))) 3 (S q 3 - (if up = 1 then 0 else m))) 4 (S q 4 + 1) 3 = S q 3 - (if up = 1 then 0 else m) := rfl
    rw [e2, e3]
    exact hp' c hc)
  simp (disch := omega) only [upS_eq, upS_ne] at h5
  generalize hW : wgt (zro (S (q + 7))) (tuA S q n kk ff edge up m) (tuB S q n kk ff edge up m) n = W at *
  rcases hk with ⟨rfl, rfl⟩ | ⟨rfl, rfl⟩ <;> rcases hff with rfl | rfl
  all_goals
    simp (disch := omega) only [upS_eq, upS_ne] at h4'
    simp only [tuA, tuB, and_true, and_false, true_and, false_and, ↓reduceIte, Nat.reduceEqDiff, eq_self, Int.reduceEq, Int.reduceLT, Int.reduceLE, Int.reduceNe, Int.reduceNeg, Int.reduceToNat, ne_eq, not_true_eq_false, not_false_eq_true, Int.sub_zero] at h5 hQ
    (simp (disch := first | with_reducible assumption | omega | decide | (simp only [ps_low, List.map_cons, List.map_nil, Value.category, List.sum_cons, List.sum_nil]; decide)) only [el_X7_turnOver_74, el_X7_turnOver_75, el_X7_turnOver_76, el_X7_turnOver_79, el_X7_turnOver_80, el_X7_turnOver_83, el_X7_turnOver_86, el_X7_turnOver_87, el_X7_turnOver_90, el_X7_turnOver_92, el_X7_turnOver_97, el_X7_turnOver_101, el_X7_turnOver_102, el_X7_turnOver_103, el_X7_turnOver_108, el_X7_turnOver_110, el_X7_turnOver_113, el_X7_turnOver_114, el_X7_turnOver_115, el_X7_turnOver_118, el_X7_turnOver_119, el_X7_turnOver_122, el_X7_turnOver_125, el_X7_turnOver_126, el_X7_turnOver_129, el_X7_turnOver_133, el_X7_turnOver_134, el_X7_turnOver_134i, el_X7_turnOver_135, el_X7_turnOver_138, el_X7_turnOver_139, el_X7_turnOver_142, el_X7_turnOver_143, el_X7_turnOver_146, el_X7_turnOver_147, el_X7_turnOver_148, el_X7_turnOver_151, el_X7_turnOver_152, el_X7_turnOver_152i, el_X7_turnOver_153, el_X7_turnOver_156, el_X7_turnOver_157, el_X7_turnOver_160, el_X7_turnOver_161, el_X7_turnOver_164, el_X7_turnOver_165, el_X7_turnOver_166, el_X7_turnOver_169, el_X7_turnOver_170, el_X7_turnOver_170i, el_X7_turnOver_171, el_X7_turnOver_174, el_X7_turnOver_175, el_X7_turnOver_176, el_X7_turnOver_179, el_X7_turnOver_183, el_X7_turnOver_184, gf_7_2, gf_7_3, gf_7_4, gf_7_6, gf_7_7, pf_7_2, pf_7_3, pf_7_4, px_ifp, px_ifn, zh_1, zc_1, zc_2, zc_3, zc_4, zc_5, zc_6, zc_7, zc_8, zc_9, zc_10, zc_11, zc_12, zc_20, zc_21, zc_22, zp_1, zp_2, zp_3, zp_4, zp_5, zp_6, zp_7, zp_8, zp_9, zp_10, zp_11, zp_12, zp_20, zp_21, zp_22, upS_eq, upS_ne, upS_up, upz_eq, upz_ne, upz_up, px_al_aI, px_as_aI, px_as_aZ, px_as_aC, px_ln_aI, Option.toList, List.cons_append, List.nil_append, Int.reduceAdd, Int.reduceSub, Int.reduceMul, ↓reduceIte, Nat.reduceEqDiff, eq_self, Int.reduceEq, Int.reduceLT, Int.reduceLE, Int.reduceNe, Int.reduceNeg, Int.reduceToNat, ne_eq, not_true_eq_false, not_false_eq_true, t0, t1, t2, t3, t4, t5, t6, t7, t8, el_X7_turnOver_94 (h1 ..) _ (zo_8 _) _, el_X7_turnOver_98 (h2 ..) _ (zo_8 _) _, el_X7_turnOver_105 (h3 ..) _ (zo_8 _) _, el_X7_turnOver_130 (h4' ..) _ (zo_8 _) _, el_X7_turnOver_180 (h5 ..) _ (zo_8 _) _, Int.sub_zero]; repeat (first | simp (disch := first | omega | decide) only [upz_srt, upy_upz, upz_up, upS_srt, upT_upS, upS_up] | simp (disch := first | with_reducible assumption | omega | decide | (simp only [ps_low, List.map_cons, List.map_nil, Value.category, List.sum_cons, List.sum_nil]; decide)) only [el_X7_turnOver_74, el_X7_turnOver_75, el_X7_turnOver_76, el_X7_turnOver_79, el_X7_turnOver_80, el_X7_turnOver_83, el_X7_turnOver_86, el_X7_turnOver_87, el_X7_turnOver_90, el_X7_turnOver_92, el_X7_turnOver_97, el_X7_turnOver_101, el_X7_turnOver_102, el_X7_turnOver_103, el_X7_turnOver_108, el_X7_turnOver_110, el_X7_turnOver_113, el_X7_turnOver_114, el_X7_turnOver_115, el_X7_turnOver_118, el_X7_turnOver_119, el_X7_turnOver_122, el_X7_turnOver_125, el_X7_turnOver_126, el_X7_turnOver_129, el_X7_turnOver_133, el_X7_turnOver_134, el_X7_turnOver_134i, el_X7_turnOver_135, el_X7_turnOver_138, el_X7_turnOver_139, el_X7_turnOver_142, el_X7_turnOver_143, el_X7_turnOver_146, el_X7_turnOver_147, el_X7_turnOver_148, el_X7_turnOver_151, el_X7_turnOver_152, el_X7_turnOver_152i, el_X7_turnOver_153, el_X7_turnOver_156, el_X7_turnOver_157, el_X7_turnOver_160, el_X7_turnOver_161, el_X7_turnOver_164, el_X7_turnOver_165, el_X7_turnOver_166, el_X7_turnOver_169, el_X7_turnOver_170, el_X7_turnOver_170i, el_X7_turnOver_171, el_X7_turnOver_174, el_X7_turnOver_175, el_X7_turnOver_176, el_X7_turnOver_179, el_X7_turnOver_183, el_X7_turnOver_184, gf_7_2, gf_7_3, gf_7_4, gf_7_6, gf_7_7, pf_7_2, pf_7_3, pf_7_4, px_ifp, px_ifn, zh_1, zc_1, zc_2, zc_3, zc_4, zc_5, zc_6, zc_7, zc_8, zc_9, zc_10, zc_11, zc_12, zc_20, zc_21, zc_22, zp_1, zp_2, zp_3, zp_4, zp_5, zp_6, zp_7, zp_8, zp_9, zp_10, zp_11, zp_12, zp_20, zp_21, zp_22, upS_eq, upS_ne, upS_up, upz_eq, upz_ne, upz_up, px_al_aI, px_as_aI, px_as_aZ, px_as_aC, px_ln_aI, Option.toList, List.cons_append, List.nil_append, Int.reduceAdd, Int.reduceSub, Int.reduceMul, ↓reduceIte, Nat.reduceEqDiff, eq_self, Int.reduceEq, Int.reduceLT, Int.reduceLE, Int.reduceNe, Int.reduceNeg, Int.reduceToNat, ne_eq, not_true_eq_false, not_false_eq_true, t0, t1, t2, t3, t4, t5, t6, t7, t8, el_X7_turnOver_94 (h1 ..) _ (zo_8 _) _, el_X7_turnOver_98 (h2 ..) _ (zo_8 _) _, el_X7_turnOver_105 (h3 ..) _ (zo_8 _) _, el_X7_turnOver_130 (h4' ..) _ (zo_8 _) _, el_X7_turnOver_180 (h5 ..) _ (zo_8 _) _, Int.sub_zero]))
    exact hQ
