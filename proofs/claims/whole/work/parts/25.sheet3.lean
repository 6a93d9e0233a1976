/-! A SHEET, 3: addCreases -/
def crV (bk : Nat → Int) (k : Int) (a b : Nat) : Int := 10 * k + (if bk a + bk b = 0 then 1 else 2)
/-- creases to the right, downwards, of the first c cells -/
def crR (w : Nat) (mv bk : Nat → Int) (k : Int) (z : Nat → Int) : Nat → (Nat → Int)
  | 0 => z
  | c + 1 => if c % w + 1 < w ∧ ¬ mv c = mv (c + 1) then upz (crR w mv bk k z c) c (crV bk k c (c + 1)) else crR w mv bk k z c
def crD (w n : Nat) (mv bk : Nat → Int) (k : Int) (z : Nat → Int) : Nat → (Nat → Int)
  | 0 => z
  | c + 1 => if c + w < n ∧ ¬ mv c = mv (c + w) then upz (crD w n mv bk k z c) c (crV bk k c (c + w)) else crD w n mv bk k z c
theorem pm_put_comm {h : pm_H} {a b : Nat} {e f : pm_E} (hn : a ≠ b) : pm_put (pm_put h a e) b f = pm_put (pm_put h b f) a e := by
  unfold pm_put
  congr 1
  funext j
  dsimp only
  by_cases h1 : j = b
  · subst h1
    rw [if_pos rfl, if_neg (by omega), if_pos rfl]
  · by_cases h2 : j = a
    · subst h2
      rw [if_neg h1, if_pos rfl, if_pos rfl]
    · rw [if_neg h1, if_neg h2, if_neg h2, if_neg h1]
def crH (h : pm_H) (q : Nat) (R D : Nat → Int) : pm_H := pm_put (pm_put h (q + 5) (aI 0 64 R)) (q + 6) (aI 0 64 D)
theorem crH_sh {h : pm_H} {q : Nat} {F : Nat → Int} {B : Nat → Nat → Int} (hs : sh h q F B) (R D : Nat → Int) : sh (crH h q R D) q F (upB (upB B 5 R) 6 D) := (hs.put 5 _ (by decide)).put 6 _ (by decide)
theorem crH_R {h : pm_H} {q : Nat} {R D R' : Nat → Int} : pm_put (crH h q R D) (q + 5) (aI 0 64 R') = crH h q R' D := by
  unfold crH
  rw [pm_put_comm (by omega), pm_put_put]
theorem crH_D {h : pm_H} {q : Nat} {R D D' : Nat → Int} : pm_put (crH h q R D) (q + 6) (aI 0 64 D') = crH h q R D' := by
  unfold crH
  rw [pm_put_put]
theorem cr_right {h : pm_H} {q n w x y c : Nat} {F : Nat → Int} {B : Nat → Nat → Int} {R D : Nat → Int} {l5 : Value} {Q : pm_O → pm_H → Prop} (hs : sh h q F B) (hn2 : n ≤ 64) (hw : (w : Int) = F 0) (hw8 : w ≤ 8) (h4 : 0 ≤ F 4 ∧ F 4 ≤ 20) (hb : ∀ c, c < n → 0 ≤ B 1 c ∧ B 1 c ≤ 1) (hm : ∀ c, c < n → 0 ≤ B 8 c ∧ B 8 c ≤ 1) (hx : x < w) (hc : c < n) (hx1 : x + 1 < w → c + 1 < n)
    (k : px_Ev 1 64 91 [.ref q, .int (zI n), .int (zI c), .int (zI y), .int (zI x), .int (zI ((c : Int) + w))] [] (crH h q (if x + 1 < w ∧ ¬ B 8 c = B 8 (c + 1) then upz R c (crV (B 1) (F 4) c (c + 1)) else R) D) Q) :
    px_Ev 1 64 34 [.ref q, .int (zI n), .int (zI c), .int (zI y), .int (zI x), l5] [] (crH h q R D) Q := by
  have hs' := crH_sh hs R D
  obtain ⟨s0, s1, s2, s3, s4, s5, s6, s7, s8⟩ := id hs'
  replace s5 : (crH h q R D).1 (q + 5) = some (aI 0 64 R) := s5
  replace s8 : (crH h q R D).1 (q + 8) = some (aI 1 64 (B 8)) := s8
  have hm0 := hm c hc
  have hb0 := hb c hc
  have e0 : (c : Int).toNat = c := by omega
  have e1 : ((c : Int) + 1).toNat = c + 1 := by omega
  simp (disch := omega) only [el_X7_addCreases_34, el_X7_addCreases_35, el_X7_addCreases_36, el_X7_addCreases_39, el_X7_addCreases_40, el_X7_addCreases_42, el_X7_addCreases_44, el_X7_addCreases_45, el_X7_addCreases_46, el_X7_addCreases_47, el_X7_addCreases_50, s0, gf_7_0, ← hw]
  by_cases h1 : x + 1 < w
  · have hc1 := hx1 h1
    have hm1 := hm (c + 1) hc1
    have hb1 := hb (c + 1) hc1
    have call := c_newCrease hs' (a := c) (b := c + 1) (by omega) (by omega) h4 ⟨hb0, hb1⟩
    rw [if_neg (by omega)]
    simp (disch := omega) only [el_X7_addCreases_53, el_X7_addCreases_54, el_X7_addCreases_55, el_X7_addCreases_56, el_X7_addCreases_57]
    rw [if_neg (by omega)]
    simp (disch := omega) only [el_X7_addCreases_60, el_X7_addCreases_61, el_X7_addCreases_64, el_X7_addCreases_65, el_X7_addCreases_66, el_X7_addCreases_67, el_X7_addCreases_70, el_X7_addCreases_71, el_X7_addCreases_72, el_X7_addCreases_73, el_X7_addCreases_74, s0, s8, gf_7_12, px_al_aI, e0, e1]
    by_cases h2 : B 8 c = B 8 (c + 1)
    · rw [if_pos h2]
      rw [if_neg (fun g => g.2 h2)] at k
      exact k
    · rw [if_neg h2]
      rw [if_pos ⟨h1, h2⟩] at k
      simp (disch := omega) only [el_X7_addCreases_77, el_X7_addCreases_78, el_X7_addCreases_81, el_X7_addCreases_82, el_X7_addCreases_83, el_X7_addCreases_84, el_X7_addCreases_85, el_X7_addCreases_86, s0, gf_7_9]
      rw [show ((c : Int) + 1) = ((c + 1 : Nat) : Int) by omega]
      rw [el_X7_addCreases_87 call (by decide) s0 rfl]
      simp (disch := omega) only [Option.toList, List.cons_append, List.nil_append, el_X7_addCreases_90, s5, px_as_aI, e0, crH_R]
      exact k
  · rw [if_pos (by omega)]
    rw [if_neg (fun g => h1 g.1)] at k
    exact k
theorem cr_down {h : pm_H} {q n w x y c : Nat} {F : Nat → Int} {B : Nat → Nat → Int} {R D : Nat → Int} {Q : pm_O → pm_H → Prop} (hs : sh h q F B) (hn2 : n ≤ 64) (hw8 : w ≤ 8) (hx : x < w) (hy : y ≤ 8) (h4 : 0 ≤ F 4 ∧ F 4 ≤ 20) (hb : ∀ c, c < n → 0 ≤ B 1 c ∧ B 1 c ≤ 1) (hm : ∀ c, c < n → 0 ≤ B 8 c ∧ B 8 c ≤ 1) (hc : c < n)
    (k : px_Ev 1 64 20 [.ref q, .int (zI n), .int (zI ((c : Int) + 1)), .int (zI y), .int (zI ((x : Int) + 1)), .int (zI ((c : Int) + w))] [] (crH h q R (if c + w < n ∧ ¬ B 8 c = B 8 (c + w) then upz D c (crV (B 1) (F 4) c (c + w)) else D)) Q) :
    px_Ev 1 64 91 [.ref q, .int (zI n), .int (zI c), .int (zI y), .int (zI x), .int (zI ((c : Int) + w))] [] (crH h q R D) Q := by
  have hs' := crH_sh hs R D
  obtain ⟨s0, s1, s2, s3, s4, s5, s6, s7, s8⟩ := id hs'
  replace s6 : (crH h q R D).1 (q + 6) = some (aI 0 64 D) := s6
  replace s8 : (crH h q R D).1 (q + 8) = some (aI 1 64 (B 8)) := s8
  have hm0 := hm c hc
  have hb0 := hb c hc
  have e0 : (c : Int).toNat = c := by omega
  have e1 : ((c : Int) + w).toNat = c + w := by omega
  simp (disch := omega) only [el_X7_addCreases_91, el_X7_addCreases_93, el_X7_addCreases_94]
  by_cases h1 : c + w < n
  · have hm1 := hm (c + w) h1
    have hb1 := hb (c + w) h1
    have call := c_newCrease hs' (a := c) (b := c + w) (by omega) (by omega) h4 ⟨hb0, hb1⟩
    rw [if_neg (by omega)]
    simp (disch := omega) only [el_X7_addCreases_97, el_X7_addCreases_98, el_X7_addCreases_101, el_X7_addCreases_102, el_X7_addCreases_103, el_X7_addCreases_104, el_X7_addCreases_107, el_X7_addCreases_109, el_X7_addCreases_110, s0, s8, gf_7_12, px_al_aI, e0, e1]
    by_cases h2 : B 8 c = B 8 (c + w)
    · rw [if_pos h2]
      rw [if_neg (fun g => g.2 h2)] at k
      simp (disch := omega) only [el_X7_addCreases_126, el_X7_addCreases_129, el_X7_addCreases_132]
      exact k
    · rw [if_neg h2]
      rw [if_pos ⟨h1, h2⟩] at k
      simp (disch := omega) only [el_X7_addCreases_113, el_X7_addCreases_114, el_X7_addCreases_117, el_X7_addCreases_118, el_X7_addCreases_119, el_X7_addCreases_120, s0, gf_7_10]
      have call' : px_R 0 65 [.ref q, .int (zI c), .int (zI ((c : Int) + w))] (crH h q R D) (.inl (some (.int (zI (crV (B 1) (F 4) c (c + w)))))) (crH h q R D) := call
      rw [el_X7_addCreases_122 call' (by decide) s0 rfl]
      simp (disch := omega) only [Option.toList, List.cons_append, List.nil_append, el_X7_addCreases_125, el_X7_addCreases_126, el_X7_addCreases_129, el_X7_addCreases_132, s6, px_as_aI, e0, crH_D]
      exact k
  · rw [if_pos (by omega)]
    rw [if_neg (fun g => h1 g.1)] at k
    simp (disch := omega) only [el_X7_addCreases_126, el_X7_addCreases_129, el_X7_addCreases_132]
    exact k
theorem c_addCreases {h : pm_H} {q n w : Nat} {F : Nat → Int} {B : Nat → Nat → Int} (hs : sh h q F B) (ho : sh_ok F n) (hw : (w : Int) = F 0) (h4 : 0 ≤ F 4 ∧ F 4 ≤ 20) (hb : ∀ c, c < n → 0 ≤ B 1 c ∧ B 1 c ≤ 1) (hm : ∀ c, c < n → 0 ≤ B 8 c ∧ B 8 c ≤ 1) :
    px_R 1 64 [.ref q, .retAddr 0, .retAddr 0, .retAddr 0, .retAddr 0, .retAddr 0] h (.inl none) (crH h q (crR w (B 8) (B 1) (F 4) (B 5) n) (crD w n (B 8) (B 1) (F 4) (B 6) n)) := by
  obtain ⟨ho0, ho1, ho2, ho3, hn, hn1, hn2⟩ := id ho
  obtain ⟨H, hH⟩ : ∃ H : Nat, (H : Int) = F 1 := ⟨(F 1).toNat, by omega⟩
  have hnH : n = H * w := by
    have : (n : Int) = (H * w : Nat) := by rw [hn, ← hH, ← hw]; push_cast; rw [Int.mul_comm]
    exact_mod_cast this
  refine px_ofQ fun Q hQ => ?_
  have hrow : ∀ y, y < H → y * w + w ≤ n := by
    intro y hy
    rw [hnH, ← Nat.succ_mul]
    exact Nat.mul_le_mul_right w hy
  have inner : ∀ (t x y c : Nat) (l5 : Value), x + t = w → y < H → c = y * w + x →
      (∀ l4 l5 : Value, px_Ev 1 64 9 [.ref q, .int (zI n), .int (zI ((y * w + w : Nat) : Int)), .int (zI ((y + 1 : Nat) : Int)), l4, l5] [] (crH h q (crR w (B 8) (B 1) (F 4) (B 5) (y * w + w)) (crD w n (B 8) (B 1) (F 4) (B 6) (y * w + w))) Q) →
      px_Ev 1 64 20 [.ref q, .int (zI n), .int (zI c), .int (zI y), .int (zI x), l5] [] (crH h q (crR w (B 8) (B 1) (F 4) (B 5) c) (crD w n (B 8) (B 1) (F 4) (B 6) c)) Q := by
    intro t
    induction t with
    | zero =>
      intro x y c l5 hx hy hc k
      have e : x = w := by omega
      subst e
      have hr := hrow y hy
      have s0 := (crH_sh hs (crR x (B 8) (B 1) (F 4) (B 5) c) (crD x n (B 8) (B 1) (F 4) (B 6) c)).1
      simp (disch := omega) only [el_X7_addCreases_20, el_X7_addCreases_22, el_X7_addCreases_23, el_X7_addCreases_26, s0, gf_7_0, ← hw]
      rw [if_pos (Int.le_refl _)]
      simp (disch := omega) only [el_X7_addCreases_135, el_X7_addCreases_138]
      subst hc
      exact k _ _
    | succ t ih =>
      intro x y c l5 hx hy hc k
      have hr := hrow y hy
      have hxw : x < w := by omega
      have hcn : c < n := by omega
      have hmod : c % w = x := by
        rw [hc, Nat.mul_comm, Nat.mul_add_mod, Nat.mod_eq_of_lt hxw]
      have s0 := (crH_sh hs (crR w (B 8) (B 1) (F 4) (B 5) c) (crD w n (B 8) (B 1) (F 4) (B 6) c)).1
      simp (disch := omega) only [el_X7_addCreases_20, el_X7_addCreases_22, el_X7_addCreases_23, el_X7_addCreases_26, s0, gf_7_0, ← hw]
      rw [if_neg (by omega)]
      simp (disch := omega) only [el_X7_addCreases_29, el_X7_addCreases_30, el_X7_addCreases_31]
      rw [if_neg (by omega)]
      refine cr_right hs hn2 hw (by omega) h4 hb hm hxw hcn (by omega) ?_
      refine cr_down hs hn2 (by omega) hxw (by omega) h4 hb hm hcn ?_
      have := ih (x + 1) y (c + 1) (.int (zI ((c : Int) + w))) (by omega) hy (by omega) k
      simp only [crR, crD, hmod] at this
      exact this
  have outer : ∀ (t y : Nat) (l4 l5 : Value), y + t = H →
      px_Ev 1 64 9 [.ref q, .int (zI n), .int (zI ((y * w : Nat) : Int)), .int (zI y), l4, l5] [] (crH h q (crR w (B 8) (B 1) (F 4) (B 5) (y * w)) (crD w n (B 8) (B 1) (F 4) (B 6) (y * w))) Q := by
    intro t
    induction t with
    | zero =>
      intro y l4 l5 hy
      have e : y = H := by omega
      subst e
      have s0 := (crH_sh hs (crR w (B 8) (B 1) (F 4) (B 5) (y * w)) (crD w n (B 8) (B 1) (F 4) (B 6) (y * w))).1
      simp (disch := omega) only [el_X7_addCreases_9, el_X7_addCreases_10, el_X7_addCreases_11, el_X7_addCreases_14, s0, gf_7_1, ← hH]
      rw [if_pos (Int.le_refl _)]
      simp (disch := omega) only [el_X7_addCreases_141]
      rw [← hnH]
      exact hQ
    | succ t ih =>
      intro y l4 l5 hy
      have s0 := (crH_sh hs (crR w (B 8) (B 1) (F 4) (B 5) (y * w)) (crD w n (B 8) (B 1) (F 4) (B 6) (y * w))).1
      simp (disch := omega) only [el_X7_addCreases_9, el_X7_addCreases_10, el_X7_addCreases_11, el_X7_addCreases_14, s0, gf_7_1, ← hH]
      rw [if_neg (by omega)]
      simp (disch := omega) only [el_X7_addCreases_17, el_X7_addCreases_18]
      refine inner w 0 y (y * w) l5 (by omega) (by omega) (by omega) ?_
      intro l4' l5'
      have := ih (y + 1) l4' l5' (by omega)
      rw [Nat.succ_mul] at this
      exact this
  obtain ⟨s0, s1, s2, s3, s4, s5, s6, s7, s8⟩ := id hs
  simp (disch := omega) only [el_X7_addCreases_0]
  rw [el_X7_addCreases_1 (c_cells hs ho) (by decide) s0 rfl]
  simp (disch := omega) only [Option.toList, List.cons_append, List.nil_append, el_X7_addCreases_4, el_X7_addCreases_5, el_X7_addCreases_6, el_X7_addCreases_7, el_X7_addCreases_8]
  have := outer H 0 (.retAddr 0) (.retAddr 0) (by omega)
  have e : crH h q (crR w (B 8) (B 1) (F 4) (B 5) (0 * w)) (crD w n (B 8) (B 1) (F 4) (B 6) (0 * w)) = h := by
    rw [Nat.zero_mul]
    unfold crH crR crD
    rw [pm_put_same s5, pm_put_same s6]
  rw [e, Nat.zero_mul] at this
  exact this
