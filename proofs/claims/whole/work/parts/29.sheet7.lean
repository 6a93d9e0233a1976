/-! A SHEET, 7: copyFrom -/
def cpF (F G : Nat → Int) : Nat → Int := upz (upz (upz (upz (upz F 0 (G 0)) 1 (G 1)) 2 (G 2)) 3 (G 3)) 4 (G 4)
def cpH (h : pm_H) (q : Nat) (F G : Nat → Int) (B C : Nat → Nat → Int) : Nat → pm_H
  | 0 => pm_put h q (o7 q (cpF F G))
  | k + 1 => pm_put (cpH h q F G B C k) (q + (k + 1)) (aI 0 64 (cpz (C (k + 1)) (B (k + 1)) 0 0 64))
theorem cpH_ne {h : pm_H} {q a : Nat} {F G : Nat → Int} {B C : Nat → Nat → Int} : ∀ k, (a < q ∨ q + k < a) → (cpH h q F G B C k).1 a = h.1 a
  | 0, ha => by
    unfold cpH
    exact pm_put_ne (by omega)
  | k + 1, ha => by
    unfold cpH
    rw [pm_put_ne (by omega)]
    exact cpH_ne k (by omega)
theorem cpH_q {h : pm_H} {q : Nat} {F G : Nat → Int} {B C : Nat → Nat → Int} : ∀ k, (cpH h q F G B C k).1 q = some (o7 q (cpF F G))
  | 0 => by
    unfold cpH
    exact pm_put_eq
  | k + 1 => by
    unfold cpH
    rw [pm_put_ne (by omega)]
    exact cpH_q k
theorem c_copyFrom {h : pm_H} {q r : Nat} {F G : Nat → Int} {B C : Nat → Nat → Int} (hs : sh h q F B) (hs' : sh h r G C) (hd : q + 9 ≤ r ∨ r + 9 ≤ q) :
    px_R 0 59 [.ref q, .ref r] h (.inl none) (cpH h q F G B C 7) := by
  obtain ⟨s0, s1, s2, s3, s4, s5, s6, s7, s8⟩ := id hs
  obtain ⟨t0, t1, t2, t3, t4, t5, t6, t7, t8⟩ := id hs'
  refine px_ofQ fun Q hQ => ?_
  have q0 : ∀ k, (cpH h q F G B C k).1 q = some (o7 q (cpF F G)) := fun k => cpH_q k
  have r0 : ∀ k, k ≤ 7 → (cpH h q F G B C k).1 r = some (o7 r G) := fun k hk => (cpH_ne k (by omega)).trans t0
  simp (disch := omega) only [el_X7_copyFrom_0, el_X7_copyFrom_1, el_X7_copyFrom_2, el_X7_copyFrom_5, el_X7_copyFrom_8, el_X7_copyFrom_9, el_X7_copyFrom_10, el_X7_copyFrom_13, el_X7_copyFrom_16, el_X7_copyFrom_17, el_X7_copyFrom_18, el_X7_copyFrom_21, el_X7_copyFrom_24, el_X7_copyFrom_25, el_X7_copyFrom_26, el_X7_copyFrom_29, el_X7_copyFrom_32, el_X7_copyFrom_33, el_X7_copyFrom_34, el_X7_copyFrom_37, s0, t0, gf_7_0, gf_7_1, gf_7_2, gf_7_3, gf_7_4, pf_7_0, pf_7_1, pf_7_2, pf_7_3, pf_7_4, pm_put_eq, pm_put_ne, pm_put_put]
  change px_Ev 0 59 40 [.ref q, .ref r] [] (cpH h q F G B C 0) Q
  simp (disch := omega) only [el_X7_copyFrom_40, el_X7_copyFrom_41, el_X7_copyFrom_44, el_X7_copyFrom_45, el_X7_copyFrom_46, el_X7_copyFrom_49, el_X7_copyFrom_50, q0, r0, gf_7_5]
  rw [el_X7_copyFrom_52 (f := C 1) (g := B 1) (n0 := 64) (n1 := 64) ((cpH_ne 0 (by omega)).trans t1) ((cpH_ne 0 (by omega)).trans s1) (by omega) rfl]
  change px_Ev 0 59 55 [.ref q, .ref r] [] (cpH h q F G B C 1) Q
  simp (disch := omega) only [el_X7_copyFrom_55, el_X7_copyFrom_56, el_X7_copyFrom_59, el_X7_copyFrom_60, el_X7_copyFrom_61, el_X7_copyFrom_64, el_X7_copyFrom_65, q0, r0, gf_7_6]
  rw [el_X7_copyFrom_67 (f := C 2) (g := B 2) (n0 := 64) (n1 := 64) ((cpH_ne 1 (by omega)).trans t2) ((cpH_ne 1 (by omega)).trans s2) (by omega) rfl]
  change px_Ev 0 59 70 [.ref q, .ref r] [] (cpH h q F G B C 2) Q
  simp (disch := omega) only [el_X7_copyFrom_70, el_X7_copyFrom_71, el_X7_copyFrom_74, el_X7_copyFrom_75, el_X7_copyFrom_76, el_X7_copyFrom_79, el_X7_copyFrom_80, q0, r0, gf_7_7]
  rw [el_X7_copyFrom_82 (f := C 3) (g := B 3) (n0 := 64) (n1 := 64) ((cpH_ne 2 (by omega)).trans t3) ((cpH_ne 2 (by omega)).trans s3) (by omega) rfl]
  change px_Ev 0 59 85 [.ref q, .ref r] [] (cpH h q F G B C 3) Q
  simp (disch := omega) only [el_X7_copyFrom_85, el_X7_copyFrom_86, el_X7_copyFrom_89, el_X7_copyFrom_90, el_X7_copyFrom_91, el_X7_copyFrom_94, el_X7_copyFrom_95, q0, r0, gf_7_8]
  rw [el_X7_copyFrom_97 (f := C 4) (g := B 4) (n0 := 64) (n1 := 64) ((cpH_ne 3 (by omega)).trans t4) ((cpH_ne 3 (by omega)).trans s4) (by omega) rfl]
  change px_Ev 0 59 100 [.ref q, .ref r] [] (cpH h q F G B C 4) Q
  simp (disch := omega) only [el_X7_copyFrom_100, el_X7_copyFrom_101, el_X7_copyFrom_104, el_X7_copyFrom_105, el_X7_copyFrom_106, el_X7_copyFrom_109, el_X7_copyFrom_110, q0, r0, gf_7_9]
  rw [el_X7_copyFrom_112 (f := C 5) (g := B 5) (n0 := 64) (n1 := 64) ((cpH_ne 4 (by omega)).trans t5) ((cpH_ne 4 (by omega)).trans s5) (by omega) rfl]
  change px_Ev 0 59 115 [.ref q, .ref r] [] (cpH h q F G B C 5) Q
  simp (disch := omega) only [el_X7_copyFrom_115, el_X7_copyFrom_116, el_X7_copyFrom_119, el_X7_copyFrom_120, el_X7_copyFrom_121, el_X7_copyFrom_124, el_X7_copyFrom_125, q0, r0, gf_7_10]
  rw [el_X7_copyFrom_127 (f := C 6) (g := B 6) (n0 := 64) (n1 := 64) ((cpH_ne 5 (by omega)).trans t6) ((cpH_ne 5 (by omega)).trans s6) (by omega) rfl]
  change px_Ev 0 59 130 [.ref q, .ref r] [] (cpH h q F G B C 6) Q
  simp (disch := omega) only [el_X7_copyFrom_130, el_X7_copyFrom_131, el_X7_copyFrom_134, el_X7_copyFrom_135, el_X7_copyFrom_136, el_X7_copyFrom_139, el_X7_copyFrom_140, q0, r0, gf_7_11]
  rw [el_X7_copyFrom_142 (f := C 7) (g := B 7) (n0 := 64) (n1 := 64) ((cpH_ne 6 (by omega)).trans t7) ((cpH_ne 6 (by omega)).trans s7) (by omega) rfl]
  change px_Ev 0 59 145 [.ref q, .ref r] [] (cpH h q F G B C 7) Q
  simp (disch := omega) only [el_X7_copyFrom_145]
  exact hQ
