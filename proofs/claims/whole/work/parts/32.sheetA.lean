/-! A SHEET, 10: layPlain -/
def lpF (F : Nat → Int) (w l : Int) : Nat → Int := upz (upz (upz (upz (upz F 0 w) 1 l) 2 w) 3 l) 4 0
def lpH (h : pm_H) (q : Nat) (G X Y : Nat → Int) : pm_H := pm_put (pm_put (pm_put h q (o7 q G)) (q + 2) (aI 0 64 X)) (q + 3) (aI 0 64 Y)
theorem lp_sh {h : pm_H} {q : Nat} {F : Nat → Int} {B : Nat → Nat → Int} (hs : sh h q F B) (G X Y : Nat → Int) : sh (lpH h q G X Y) q G (upB (upB B 2 X) 3 Y) := ((hs.put0 G).put 2 _ (by decide)).put 3 _ (by decide)
theorem lp_2 {h : pm_H} {q : Nat} {G X Y X' : Nat → Int} : pm_put (lpH h q G X Y) (q + 2) (aI 0 64 X') = lpH h q G X' Y := by
  unfold lpH
  rw [pm_put_comm (a := q + 3) (b := q + 2) (by omega), pm_put_put]
theorem lp_3 {h : pm_H} {q : Nat} {G X Y Y' : Nat → Int} : pm_put (lpH h q G X Y) (q + 3) (aI 0 64 Y') = lpH h q G X Y' := by
  unfold lpH
  rw [pm_put_put]
def lpX (W : Nat) (z : Nat → Int) (c : Nat) : Nat → Int := tcS c (fun _ => 1) (fun j => ((j % W : Nat) : Int)) z
def lpY (W : Nat) (z : Nat → Int) (c : Nat) : Nat → Int := tcS c (fun _ => 1) (fun j => ((j / W : Nat) : Int)) z
def lpE (h : pm_H) (q n W H : Nat) (F : Nat → Int) (B : Nat → Nat → Int) : pm_H :=
  pm_put (pm_put (pm_put (pm_put (pm_put (lpH h q (lpF F W H) (lpX W (B 2) n) (lpY W (B 3) n)) (q + 4) (aI 0 64 (zro (B 4)))) (q + 1) (aI 0 64 (zro (B 1)))) (q + 5) (aI 0 64 (zro (B 5)))) (q + 6) (aI 0 64 (zro (B 6)))) (q + 7) (aI 0 64 (wgt (zro (B 7)) (lpX W (B 2) n) (lpY W (B 3) n) n))
theorem c_layPlain {h : pm_H} {q n W H : Nat} {F : Nat → Int} {B : Nat → Nat → Int} (hs : sh h q F B) (hW : 1 ≤ W ∧ W ≤ 8) (hH : 1 ≤ H ∧ H ≤ 8) (hn : n = H * W) :
    px_R 2 58 [.ref q, .int (zI W), .int (zI H), .retAddr 0, .retAddr 0, .retAddr 0] h (.inl none) (lpE h q n W H F B) := by
  obtain ⟨s0, s1, s2, s3, s4, s5, s6, s7, s8⟩ := id hs
  have hn64 : n ≤ 64 := by
    rw [hn]
    exact Nat.mul_le_mul hH.2 hW.2
  have hn1 : 1 ≤ n := by
    rw [hn]
    exact Nat.mul_le_mul hH.1 hW.1
  refine px_ofQ fun Q hQ => ?_
  have hrow : ∀ y, y < H → y * W + W ≤ n := by
    intro y hy
    rw [hn, ← Nat.succ_mul]
    exact Nat.mul_le_mul_right W hy
  have m1 : (if (8 : Int) < W then 8 else (W : Int)) = W := if_neg (by omega)
  have m2 : (if (1 : Int) < W then (W : Int) else 1) = W := by split <;> omega
  have m3 : (if (8 : Int) < H then 8 else (H : Int)) = H := if_neg (by omega)
  have m4 : (if (1 : Int) < H then (H : Int) else 1) = H := by split <;> omega
  have t0 : ∀ X Y, (lpH h q (lpF F W H) X Y).1 q = some (o7 q (lpF F W H)) := fun X Y => (lp_sh hs _ X Y).1
  have t2 : ∀ X Y, (lpH h q (lpF F W H) X Y).1 (q + 2) = some (aI 0 64 X) := fun X Y => (lp_sh hs _ X Y).2.2.1
  have t3 : ∀ X Y, (lpH h q (lpF F W H) X Y).1 (q + 3) = some (aI 0 64 Y) := fun X Y => (lp_sh hs _ X Y).2.2.2.1
  have f0 : lpF F W H 0 = W := rfl
  have f1 : lpF F W H 1 = H := rfl
  have fin : ∀ l3 l4 l5 : Value, px_Ev 2 58 112 [.ref q, .int (zI W), .int (zI H), l3, l4, l5] [] (lpH h q (lpF F W H) (lpX W (B 2) n) (lpY W (B 3) n)) Q := by
    intro l3 l4 l5
    have u1 := lp_sh hs (lpF F W H) (lpX W (B 2) n) (lpY W (B 3) n)
    have u2 := u1.put 4 (zro (B 4)) (by decide)
    have u3 := u2.put 1 (zro (B 1)) (by decide)
    have u4 := u3.put 5 (zro (B 5)) (by decide)
    have u5 := u4.put 6 (zro (B 6)) (by decide)
    simp (disch := omega) only [el_X7_layPlain_112, el_X7_layPlain_113, el_X7_layPlain_116, u1.1, gf_7_8]
    rw [el_X7_layPlain_117 (c_fill (u1.arr 4 (by decide)) (by decide)) (by decide) rfl]
    change px_Ev 2 58 120 [.ref q, .int (zI W), .int (zI H), l3, l4, l5] [] (pm_put (lpH h q (lpF F W H) (lpX W (B 2) n) (lpY W (B 3) n)) (q + 4) (aI 0 64 (zro (B 4)))) Q
    simp (disch := omega) only [el_X7_layPlain_120, el_X7_layPlain_121, el_X7_layPlain_124, u2.1, gf_7_5]
    rw [el_X7_layPlain_125 (c_fill (u2.arr 1 (by decide)) (by decide)) (by decide) rfl]
    change px_Ev 2 58 128 [.ref q, .int (zI W), .int (zI H), l3, l4, l5] [] (pm_put (pm_put (lpH h q (lpF F W H) (lpX W (B 2) n) (lpY W (B 3) n)) (q + 4) (aI 0 64 (zro (B 4)))) (q + 1) (aI 0 64 (zro (B 1)))) Q
    simp (disch := omega) only [el_X7_layPlain_128, el_X7_layPlain_129, el_X7_layPlain_132, u3.1, gf_7_9]
    rw [el_X7_layPlain_133 (c_fill (u3.arr 5 (by decide)) (by decide)) (by decide) rfl]
    change px_Ev 2 58 136 [.ref q, .int (zI W), .int (zI H), l3, l4, l5] [] (pm_put (pm_put (pm_put (lpH h q (lpF F W H) (lpX W (B 2) n) (lpY W (B 3) n)) (q + 4) (aI 0 64 (zro (B 4)))) (q + 1) (aI 0 64 (zro (B 1)))) (q + 5) (aI 0 64 (zro (B 5)))) Q
    simp (disch := omega) only [el_X7_layPlain_136, el_X7_layPlain_137, el_X7_layPlain_140, u4.1, gf_7_10]
    rw [el_X7_layPlain_141 (c_fill (u4.arr 6 (by decide)) (by decide)) (by decide) rfl]
    change px_Ev 2 58 144 [.ref q, .int (zI W), .int (zI H), l3, l4, l5] [] (pm_put (pm_put (pm_put (pm_put (lpH h q (lpF F W H) (lpX W (B 2) n) (lpY W (B 3) n)) (q + 4) (aI 0 64 (zro (B 4)))) (q + 1) (aI 0 64 (zro (B 1)))) (q + 5) (aI 0 64 (zro (B 5)))) (q + 6) (aI 0 64 (zro (B 6)))) Q
    simp (disch := omega) only [el_X7_layPlain_144]
    have ok : sh_ok (lpF F W H) n := by
      refine ⟨?_, ?_, ?_, ?_, ?_, hn1, hn64⟩
      · change 1 ≤ (W : Int) ∧ (W : Int) ≤ 8
        omega
      · change 1 ≤ (H : Int) ∧ (H : Int) ≤ 8
        omega
      · change 1 ≤ (W : Int) ∧ (W : Int) ≤ 8
        omega
      · change 1 ≤ (H : Int) ∧ (H : Int) ≤ 8
        omega
      · change (n : Int) = (W : Int) * (H : Int)
        rw [hn, Int.mul_comm]
        push_cast
        rfl
    have pl : ∀ c, c < n → (0 ≤ lpX W (B 2) n c ∧ lpX W (B 2) n c < W) ∧ 0 ≤ lpY W (B 3) n c ∧ lpY W (B 3) n c < H := by
      intro c hc
      have hd : c / W < H := by
        rw [Nat.div_lt_iff_lt_mul (by omega), ← hn]
        exact hc
      have hmo : c % W < W := Nat.mod_lt _ (by omega)
      unfold lpX lpY tcS
      have h10 : ¬ (1 : Int) = 0 := by decide
      rw [if_pos ⟨hc, h10⟩, if_pos ⟨hc, h10⟩]
      exact ⟨⟨Int.natCast_nonneg _, Int.ofNat_lt.mpr hmo⟩, Int.natCast_nonneg _, Int.ofNat_lt.mpr hd⟩
    rw [el_X7_layPlain_145 (c_weigh u5 ok pl) (by decide) u5.1 rfl]
    simp (disch := omega) only [Option.toList, List.nil_append, el_X7_layPlain_148]
    exact hQ
  have inner : ∀ (t x y c : Nat), x + t = W → y < H → c = y * W + x →
      (∀ l5 : Value, px_Ev 2 58 54 [.ref q, .int (zI W), .int (zI H), .int (zI ((y * W + W : Nat) : Int)), .int (zI ((y + 1 : Nat) : Int)), l5] [] (lpH h q (lpF F W H) (lpX W (B 2) (y * W + W)) (lpY W (B 3) (y * W + W))) Q) →
      px_Ev 2 58 66 [.ref q, .int (zI W), .int (zI H), .int (zI c), .int (zI y), .int (zI x)] [] (lpH h q (lpF F W H) (lpX W (B 2) c) (lpY W (B 3) c)) Q := by
    intro t
    induction t with
    | zero =>
      intro x y c hx hy hc k
      have e : x = W := by omega
      subst e
      simp (disch := omega) only [el_X7_layPlain_66, el_X7_layPlain_68, el_X7_layPlain_69, el_X7_layPlain_72, t0, gf_7_0, f0]
      rw [if_pos (Int.le_refl _)]
      simp (disch := omega) only [el_X7_layPlain_106, el_X7_layPlain_109]
      subst hc
      exact k _
    | succ t ih =>
      intro x y c hx hy hc k
      have hr := hrow y hy
      have hxw : x < W := by omega
      have hcn : c < n := by omega
      have e0 : (c : Int).toNat = c := by omega
      have hmod : c % W = x := by
        rw [hc, Nat.mul_comm, Nat.mul_add_mod, Nat.mod_eq_of_lt hxw]
      have hdiv : c / W = y := by
        rw [hc, Nat.mul_comm, Nat.mul_add_div (by omega), Nat.div_eq_of_lt hxw]
        rfl
      simp (disch := omega) only [el_X7_layPlain_66, el_X7_layPlain_68, el_X7_layPlain_69, el_X7_layPlain_72, t0, gf_7_0, f0]
      rw [if_neg (by omega)]
      simp (disch := omega) only [el_X7_layPlain_75, el_X7_layPlain_76, el_X7_layPlain_78]
      rw [if_neg (by omega)]
      simp (disch := omega) only [el_X7_layPlain_81, el_X7_layPlain_82, el_X7_layPlain_85, el_X7_layPlain_86, el_X7_layPlain_88, el_X7_layPlain_89, el_X7_layPlain_90, el_X7_layPlain_93, el_X7_layPlain_94, el_X7_layPlain_96, el_X7_layPlain_97, el_X7_layPlain_100, el_X7_layPlain_103, t0, t2, t3, gf_7_6, gf_7_7, px_as_aI, e0, lp_2, lp_3]
      have ex : upz (lpX W (B 2) c) c x = lpX W (B 2) (c + 1) := tcS_upd (by decide) (by rw [hmod])
      have ey : upz (lpY W (B 3) c) c y = lpY W (B 3) (c + 1) := tcS_upd (by decide) (by rw [hdiv])
      rw [ex, ey]
      exact ih (x + 1) y (c + 1) (by omega) hy (by omega) k
  have outer : ∀ (t y : Nat) (l5 : Value), y + t = H →
      px_Ev 2 58 54 [.ref q, .int (zI W), .int (zI H), .int (zI ((y * W : Nat) : Int)), .int (zI y), l5] [] (lpH h q (lpF F W H) (lpX W (B 2) (y * W)) (lpY W (B 3) (y * W))) Q := by
    intro t
    induction t with
    | zero =>
      intro y l5 hy
      have e : y = H := by omega
      subst e
      simp (disch := omega) only [el_X7_layPlain_54, el_X7_layPlain_56, el_X7_layPlain_57, el_X7_layPlain_60, t0, gf_7_1, f1]
      rw [if_pos (Int.le_refl _), ← hn]
      exact fin _ _ _
    | succ t ih =>
      intro y l5 hy
      simp (disch := omega) only [el_X7_layPlain_54, el_X7_layPlain_56, el_X7_layPlain_57, el_X7_layPlain_60, t0, gf_7_1, f1]
      rw [if_neg (by omega)]
      simp (disch := omega) only [el_X7_layPlain_63, el_X7_layPlain_64]
      refine inner W 0 y (y * W) (by omega) (by omega) (by omega) ?_
      intro l5'
      have := ih (y + 1) l5' (by omega)
      rw [Nat.succ_mul] at this
      exact this
  simp (disch := omega) only [el_X7_layPlain_0, el_X7_layPlain_1, el_X7_layPlain_2, el_X7_layPlain_3]
  rw [el_X7_layPlain_5 (by omega) rfl, m1, el_X7_layPlain_8 (by omega) rfl, m2]
  simp (disch := omega) only [el_X7_layPlain_11, el_X7_layPlain_14, el_X7_layPlain_15, el_X7_layPlain_16, el_X7_layPlain_17, s0, pf_7_0]
  rw [el_X7_layPlain_19 (by omega) rfl, m3, el_X7_layPlain_22 (by omega) rfl, m4]
  simp (disch := omega) only [el_X7_layPlain_25, el_X7_layPlain_28, el_X7_layPlain_29, el_X7_layPlain_30, el_X7_layPlain_33, el_X7_layPlain_36, el_X7_layPlain_37, el_X7_layPlain_38, el_X7_layPlain_41, el_X7_layPlain_44, el_X7_layPlain_45, el_X7_layPlain_46, el_X7_layPlain_49, el_X7_layPlain_50, el_X7_layPlain_51, el_X7_layPlain_52, s0, gf_7_0, gf_7_1, pf_7_1, pf_7_2, pf_7_3, pf_7_4, pm_put_eq, pm_put_put]
  have k := outer H 0 (.retAddr 0) (by omega)
  have e : lpH h q (lpF F W H) (lpX W (B 2) (0 * W)) (lpY W (B 3) (0 * W)) = pm_put h q (o7 q (lpF F W H)) := by
    have ex : ∀ a b : Nat → Int, tcS 0 (fun _ => 1) a b = b := by
      intro a b
      funext j
      unfold tcS
      rw [if_neg (fun g => Nat.not_lt_zero j g.1)]
    unfold lpX lpY lpH
    rw [Nat.zero_mul, ex, ex, pm_put_comm (a := q) (b := q + 2) (by omega), pm_put_same s2, pm_put_comm (a := q) (b := q + 3) (by omega), pm_put_same s3]
  rw [e, Nat.zero_mul] at k
  exact k
