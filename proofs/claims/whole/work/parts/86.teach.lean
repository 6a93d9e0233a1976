/-! THE MODEL, 13: teach -/
def teF (kn v : Int) (s : Int × Int × Int) : Int × Int × Int := (if s.1 = 1 ∧ (-1 ≤ v ∧ v ≤ kn - 1) ∧ (s.2.1 = 0 ∨ v = -1) then 1 else 0, if s.2.1 = 1 ∨ v = -1 then 1 else 0, if (s.2.1 = 1 ∨ v = -1) ∨ ¬ (s.1 = 1 ∧ (-1 ≤ v ∧ v ≤ kn - 1) ∧ (s.2.1 = 0 ∨ v = -1)) then s.2.2 else s.2.2 + 1)
def teL (kn : Int) (l : List Int) (s : Int × Int × Int) : Int × Int × Int := l.foldl (fun s v => teF kn v s) s
theorem teL_0 {kn : Int} : ∀ (l : List Int) (s : Int × Int × Int), s.1 ≠ 1 → (teL kn l s).1 ≠ 1
  | [], s, h => h
  | v :: r, s, h => by
    refine teL_0 r _ ?_
    show (teF kn v s).1 ≠ 1
    unfold teF
    rw [if_neg (fun z => h z.1)]
    show (0 : Int) ≠ 1
    decide
theorem teL_lat {kn : Int} (hk : 1 ≤ kn) : ∀ (l : List Int) (s : Int × Int × Int) (e : Bool), s.1 = 1 → ((s.2.1 = 1 ∧ e = true) ∨ (s.2.1 = 0 ∧ e = false)) → ((teL kn l s).1 = 1 ∧ latL kn l e s.2.2 = (teL kn l s).2.2) ∨ ((teL kn l s).1 ≠ 1 ∧ latL kn l e s.2.2 = -1)
  | [], s, e, h, he => .inl ⟨h, rfl⟩
  | v :: r, s, e, h, he => by
    unfold latL
    have eT : teL kn (v :: r) s = teL kn r (teF kn v s) := rfl
    rw [eT]
    by_cases g : v = -1
    · rw [if_pos g]
      by_cases gk : -1 ≤ kn - 1
      · have e1 : teF kn v s = (1, 1, s.2.2) := by
          unfold teF
          rw [if_pos ⟨h, by omega, .inr g⟩, if_pos (.inr g), if_pos (.inl (.inr g))]
        rw [e1]
        exact teL_lat hk r (1, 1, s.2.2) true rfl (.inl ⟨rfl, rfl⟩)
      · exact absurd (show -1 ≤ kn - 1 by omega) gk
    · rw [if_neg g]
      by_cases g2 : e = true ∨ v < 0 ∨ kn ≤ v
      · rw [if_pos g2]
        right
        refine ⟨teL_0 r _ ?_, rfl⟩
        unfold teF
        rw [if_neg]
        · show (0 : Int) ≠ 1
          decide
        · rintro ⟨-, z1, z2⟩
          rcases g2 with g2 | g2
          · rcases he with ⟨h1, -⟩ | ⟨-, h1⟩
            · omega
            · rw [g2] at h1
              cases h1
          · omega
      · rw [if_neg g2]
        have he0 : s.2.1 = 0 ∧ e = false := by
          rcases he with ⟨-, h1⟩ | h1
          · exact absurd (.inl h1) g2
          · exact h1
        have e1 : teF kn v s = (1, 0, s.2.2 + 1) := by
          unfold teF
          rw [if_pos ⟨h, by omega, .inl he0.1⟩, if_neg (by omega), if_neg (by omega)]
        rw [e1]
        exact teL_lat hk r (1, 0, s.2.2 + 1) e rfl (.inr ⟨rfl, he0.2⟩)
section MODEL
variable {T : Nat → Nat × Nat} {S : Nat → Nat → Int} {c : pm_M × pm_C} {m : Nat} {k : Int} {F : fS} {kc : String → Int}
theorem teach_m {a b d e : Int} (h : mR T S m F) (hf : fI k F) (ha : rg a) (hb : rg b) (hd : rg d) (he : rg e) (r : Int ⊕ String) (F' : fS)
    (hP : ((teN F.1 a b d e < 1 ∨ 12 ≤ F.2.1.2.1.1) ∧ r = .inl (-1) ∧ F' = (F.1, upI F.2.1 2, F.2.2)) ∨ (¬ (teN F.1 a b d e < 1 ∨ 12 ≤ F.2.1.2.1.1) ∧ r = .inl (F.2.1.2.1.1 + 1 : Nat) ∧ F' = (F.1, teI F.2.1 (teN F.1 a b d e) a b d e, F.2.2))) :
    mopR 1 200 [.ref m, .int (zI a), .int (zI b), .int (zI d), .int (zI e), .retAddr 0, .retAddr 0, .retAddr 0, .retAddr 0, .retAddr 0] T S c m kc r F' := by
  obtain ⟨t0, t1, t2, t3, t4, t5, t6, t7, t8, t9, t10, t11, t12, t13, t14, t15, t16, t17, t18, t19, t20, t21, t22, t23, t24, t25, t26, t27, t28, t29, t30, t31, t32, t33, t34, t35⟩ := id h.1
  unfold rg at ha hb hd he
  have hkn : 1 ≤ F.1 0 6 ∧ F.1 0 6 ≤ 10 := hf.2.1.1.2.2.2.2.2.2
  have k6 : S (m + 2) 6 = F.1 0 6 := h.2.1.1 6 (by decide)
  have n58 := h.2.2.2.1.2.1.1
  have hro := hf.2.2.1.2.1
  have hn12 := hro.1
  have q2 := h.2.2.2.1.2.2 2 (by decide)
  have hw : ∃ w : Nat → Int, w 0 = a ∧ w 1 = b ∧ w 2 = d ∧ w 3 = e := ⟨fun j => if j = 0 then a else if j = 1 then b else if j = 2 then d else e, rfl, rfl, rfl, rfl⟩
  obtain ⟨w, w0, w1, w2, w3⟩ := hw
  have hwr : ∀ i, i < 4 → -2147483648 ≤ w i ∧ w i ≤ 2147483647 := by
    intro i hi
    rcases (show i = 0 ∨ i = 1 ∨ i = 2 ∨ i = 3 by omega) with rfl | rfl | rfl | rfl
    · rw [w0]; exact ha
    · rw [w1]; exact hb
    · rw [w2]; exact hd
    · rw [w3]; exact he
  obtain ⟨n0, hn0⟩ : ∃ n0, F.2.1.2.1.1 = n0 := ⟨_, rfl⟩
  rw [hn0] at n58 hn12
  -- the state behind i numbers
  have hsf : ∃ sf : Nat → Int × Int × Int, sf 0 = (if n0 < 12 then 1 else 0, 0, 0) ∧ (∀ i, sf (i + 1) = teF (F.1 0 6) (w i) (sf i)) ∧ sf 4 = teL (F.1 0 6) [a, b, d, e] (if n0 < 12 then 1 else 0, 0, 0) := by
    refine ⟨fun i => Nat.rec (if n0 < 12 then 1 else 0, 0, 0) (fun i s => teF (F.1 0 6) (w i) s) i, rfl, fun _ => rfl, ?_⟩
    show teF _ (w 3) (teF _ (w 2) (teF _ (w 1) (teF _ (w 0) _))) = _
    rw [w0, w1, w2, w3]
    rfl
  obtain ⟨sf, sf0, sfs, sf4⟩ := hsf
  have sfr : ∀ i, ((sf i).1 = 0 ∨ (sf i).1 = 1) ∧ ((sf i).2.1 = 0 ∨ (sf i).2.1 = 1) ∧ (0 ≤ (sf i).2.2 ∧ (sf i).2.2 ≤ i) ∧ ((sf i).1 = 1 → n0 < 12 ∧ ((sf i).2.1 = 0 → (sf i).2.2 = i)) := by
    intro i
    induction i with
    | zero =>
      rw [sf0]
      by_cases g : n0 < 12
      · rw [if_pos g]
        exact ⟨.inr rfl, .inl rfl, by decide, fun _ => ⟨g, fun _ => rfl⟩⟩
      · rw [if_neg g]
        exact ⟨.inl rfl, .inl rfl, by decide, fun z => by exfalso; change (0 : Int) = 1 at z; omega⟩
    | succ i ih =>
      obtain ⟨i1, i2, i3, i4⟩ := ih
      rw [sfs]
      unfold teF
      push_cast
      refine ⟨?_, ?_, ?_, fun hx => ?_⟩
      · show (if _ then (1 : Int) else 0) = 0 ∨ (if _ then (1 : Int) else 0) = 1
        split
        · exact .inr rfl
        · exact .inl rfl
      · show (if _ then (1 : Int) else 0) = 0 ∨ (if _ then (1 : Int) else 0) = 1
        split
        · exact .inr rfl
        · exact .inl rfl
      · split <;> omega
      · have hx' : (sf i).1 = 1 ∧ (-1 ≤ w i ∧ w i ≤ F.1 0 6 - 1) ∧ ((sf i).2.1 = 0 ∨ w i = -1) := by
          refine Decidable.byContradiction (fun z => ?_)
          rw [if_neg z] at hx
          exact absurd hx (by decide)
        refine ⟨(i4 hx'.1).1, fun hy => ?_⟩
        have hy' : ¬ ((sf i).2.1 = 1 ∨ w i = -1) := by
          intro z
          rw [if_pos z] at hy
          exact absurd hy (by decide)
        rw [if_neg (fun z => z.elim hy' (fun y => y hx'))]
        have := (i4 hx'.1).2 (by omega)
        omega
  -- what the first i numbers wrote
  let Inv := fun (i : Nat) (S2 : Nat → Nat → Int) => S2 m = upz (S m) 1 0 ∧ (∀ x, x ≠ m → x ≠ m + 29 → S2 x = S x) ∧ (∀ j, j < 4 * n0 → S2 (m + 29) j = S (m + 29) j) ∧ ((sf i).1 = 1 → ∀ j : Nat, (j : Int) < (sf i).2.2 → S2 (m + 29) (4 * n0 + j) = w j)
  have run : ∀ Q : pm_O → pm_H → Prop, (∀ (S2 : Nat → Nat → Int) (l9 : Value), Inv 4 S2 → px_Ev 1 200 166 [.ref m, .int (zI a), .int (zI b), .int (zI d), .int (zI e), .int (zI (sf 4).2.2), .int (zI (sf 4).1), .int (zI (sf 4).2.1), .int (zI 4), l9] [] (zh T S2 c) Q) → px_Ev 1 200 0 [.ref m, .int (zI a), .int (zI b), .int (zI d), .int (zI e), .retAddr 0, .retAddr 0, .retAddr 0, .retAddr 0, .retAddr 0] [] (zh T S c) Q := by
    intro Q hQ
    have loop : ∀ (t i : Nat) (S2 : Nat → Nat → Int) (l9 : Value), i + t = 4 → Inv i S2 → px_Ev 1 200 30 [.ref m, .int (zI a), .int (zI b), .int (zI d), .int (zI e), .int (zI (sf i).2.2), .int (zI (sf i).1), .int (zI (sf i).2.1), .int (zI i), l9] [] (zh T S2 c) Q := by
      intro t
      induction t with
      | zero =>
        intro i S2 l9 hi iv
        have e4 : i = 4 := by omega
        subst e4
        have fq := hQ S2 l9 iv
        have ez : ((4 : Nat) : Int) = 4 := rfl
        rw [ez, el_X11_teach_30]
        (simp (disch := first | with_reducible assumption | omega | decide | (simp only [ps_low, List.map_cons, List.map_nil, Value.category, List.sum_cons, List.sum_nil]; decide)) only [el_X11_teach_32, el_X11_teach_33, px_ifp, px_ifn, zh_1, zc_1, zc_2, zc_3, zc_4, zc_5, zc_6, zc_7, zc_8, zc_9, zc_10, zc_11, zc_12, zc_20, zc_21, zc_22, zp_1, zp_2, zp_3, zp_4, zp_5, zp_6, zp_7, zp_8, zp_9, zp_10, zp_11, zp_12, zp_20, zp_21, zp_22, upS_eq, upS_ne, upS_up, upz_eq, upz_ne, upz_up, px_al_aI, px_as_aI, px_as_aZ, px_as_aC, px_ln_aI, Option.toList, List.cons_append, List.nil_append, Int.reduceAdd, Int.reduceSub, Int.reduceMul, ↓reduceIte, Nat.reduceEqDiff, eq_self, Int.reduceEq, Int.reduceLT, Int.reduceLE, Int.reduceNe, Int.reduceNeg, Int.reduceToNat, ne_eq, not_true_eq_false, not_false_eq_true, t0, t1, t2, t3, t4, t5, t6, t7, t8, t9, t10, t11, t12, t13, t14, t15, t16, t17, t18, t19, t20, t21, t22, t23, t24, t25, t26, t27, t28, t29, t30, t31, t32, t33, t34, t35]; repeat (first | simp (disch := first | omega | decide) only [upz_srt, upy_upz, upz_up, upS_srt, upT_upS, upS_up] | simp (disch := first | with_reducible assumption | omega | decide | (simp only [ps_low, List.map_cons, List.map_nil, Value.category, List.sum_cons, List.sum_nil]; decide)) only [el_X11_teach_32, el_X11_teach_33, px_ifp, px_ifn, zh_1, zc_1, zc_2, zc_3, zc_4, zc_5, zc_6, zc_7, zc_8, zc_9, zc_10, zc_11, zc_12, zc_20, zc_21, zc_22, zp_1, zp_2, zp_3, zp_4, zp_5, zp_6, zp_7, zp_8, zp_9, zp_10, zp_11, zp_12, zp_20, zp_21, zp_22, upS_eq, upS_ne, upS_up, upz_eq, upz_ne, upz_up, px_al_aI, px_as_aI, px_as_aZ, px_as_aC, px_ln_aI, Option.toList, List.cons_append, List.nil_append, Int.reduceAdd, Int.reduceSub, Int.reduceMul, ↓reduceIte, Nat.reduceEqDiff, eq_self, Int.reduceEq, Int.reduceLT, Int.reduceLE, Int.reduceNe, Int.reduceNeg, Int.reduceToNat, ne_eq, not_true_eq_false, not_false_eq_true, t0, t1, t2, t3, t4, t5, t6, t7, t8, t9, t10, t11, t12, t13, t14, t15, t16, t17, t18, t19, t20, t21, t22, t23, t24, t25, t26, t27, t28, t29, t30, t31, t32, t33, t34, t35]))
        exact fq
      | succ t ih =>
        intro i S2 l9 hi iv
        obtain ⟨iv1, iv2, iv3, iv4⟩ := id iv
        obtain ⟨r1, r2, r3, r4⟩ := sfr i
        have hv := hwr i (by omega)
        have e6 : S2 (m + 2) 6 = F.1 0 6 := by rw [iv2 _ (by omega) (by omega)]; exact k6
        have e58 : S2 m 58 = (n0 : Nat) := by rw [iv1, upz_ne (by omega)]; exact n58
        have ki := m_isIn (h := zh T S2 c) (v := w i) (a := -1) (b := F.1 0 6 - 1) hv (by decide) (by omega)
        have eS : sf (i + 1) = teF (F.1 0 6) (w i) (sf i) := sfs i
        -- behind the choice of the number
        have st : px_Ev 1 200 67 [.ref m, .int (zI a), .int (zI b), .int (zI d), .int (zI e), .int (zI (sf i).2.2), .int (zI (sf i).1), .int (zI (sf i).2.1), .int (zI i), l9] [.int (zI (w i))] (zh T S2 c) Q := by
          have keep : (sf (i + 1)).1 = 1 → (sf (i + 1)).2.2 = (sf i).2.2 → (sf i).1 = 1 → Inv (i + 1) S2 := fun h1 h2 h3 => ⟨iv1, iv2, iv3, fun _ j hj => iv4 h3 j (by omega)⟩
          have drop : (sf (i + 1)).1 ≠ 1 → Inv (i + 1) S2 := fun h1 => ⟨iv1, iv2, iv3, fun z => absurd z h1⟩
          have nx := fun S3 iv' => ih (i + 1) S3 (.int (zI (w i))) (by omega) iv'
          have ne1 : (sf (i + 1)).1 = if (sf i).1 = 1 ∧ (-1 ≤ w i ∧ w i ≤ F.1 0 6 - 1) ∧ ((sf i).2.1 = 0 ∨ w i = -1) then 1 else 0 := by rw [eS]; rfl
          have ne2 : (sf (i + 1)).2.1 = if (sf i).2.1 = 1 ∨ w i = -1 then 1 else 0 := by rw [eS]; rfl
          have ne3 : (sf (i + 1)).2.2 = if ((sf i).2.1 = 1 ∨ w i = -1) ∨ ¬ ((sf i).1 = 1 ∧ (-1 ≤ w i ∧ w i ≤ F.1 0 6 - 1) ∧ ((sf i).2.1 = 0 ∨ w i = -1)) then (sf i).2.2 else (sf i).2.2 + 1 := by rw [eS]; rfl
          generalize hsi : sf i = s at *
          obtain ⟨fi, en, nn⟩ := s
          dsimp only at *
          by_cases g1 : fi = 1
          · by_cases g2 : -1 ≤ w i ∧ w i ≤ F.1 0 6 - 1
            · rw [if_pos g2] at ki
              rcases r2 with g3 | g3
              · by_cases g4 : w i = -1
                · rw [if_pos ⟨g1, g2, .inr g4⟩] at ne1
                  rw [if_pos (.inr g4)] at ne2
                  rw [if_pos (.inl (.inr g4))] at ne3
                  have nx := nx S2 (keep ne1 ne3 g1)
                  rw [ne1, ne2, ne3] at nx
                  rw [g4] at ki nx ⊢
                  (simp (disch := first | with_reducible assumption | omega | decide | (simp only [ps_low, List.map_cons, List.map_nil, Value.category, List.sum_cons, List.sum_nil]; decide)) only [el_X11_teach_67, el_X11_teach_69, el_X11_teach_71, el_X11_teach_74, el_X11_teach_76, el_X11_teach_77, el_X11_teach_78, el_X11_teach_81, el_X11_teach_83, el_X11_teach_84, el_X11_teach_85, el_X11_teach_89, el_X11_teach_92, el_X11_teach_94, el_X11_teach_97, el_X11_teach_99, el_X11_teach_100, el_X11_teach_103, el_X11_teach_104, el_X11_teach_107, el_X11_teach_108, el_X11_teach_110, el_X11_teach_112, el_X11_teach_115, el_X11_teach_117, el_X11_teach_118, el_X11_teach_121, el_X11_teach_122, el_X11_teach_125, el_X11_teach_126, el_X11_teach_128, el_X11_teach_130, el_X11_teach_133, el_X11_teach_135, el_X11_teach_138, el_X11_teach_141, el_X11_teach_142, el_X11_teach_145, el_X11_teach_146, el_X11_teach_147, el_X11_teach_150, el_X11_teach_151, el_X11_teach_153, el_X11_teach_154, el_X11_teach_156, el_X11_teach_157, el_X11_teach_160, el_X11_teach_163, gf_11_2, gf_11_55, gf_11_58, px_ifp, px_ifn, zh_1, zc_1, zc_2, zc_3, zc_4, zc_5, zc_6, zc_7, zc_8, zc_9, zc_10, zc_11, zc_12, zc_20, zc_21, zc_22, zp_1, zp_2, zp_3, zp_4, zp_5, zp_6, zp_7, zp_8, zp_9, zp_10, zp_11, zp_12, zp_20, zp_21, zp_22, upS_eq, upS_ne, upS_up, upz_eq, upz_ne, upz_up, px_al_aI, px_as_aI, px_as_aZ, px_as_aC, px_ln_aI, Option.toList, List.cons_append, List.nil_append, Int.reduceAdd, Int.reduceSub, Int.reduceMul, ↓reduceIte, Nat.reduceEqDiff, eq_self, Int.reduceEq, Int.reduceLT, Int.reduceLE, Int.reduceNe, Int.reduceNeg, Int.reduceToNat, ne_eq, not_true_eq_false, not_false_eq_true, t0, t1, t2, t3, t4, t5, t6, t7, t8, t9, t10, t11, t12, t13, t14, t15, t16, t17, t18, t19, t20, t21, t22, t23, t24, t25, t26, t27, t28, t29, t30, t31, t32, t33, t34, t35, g1, g3, e6, el_X11_teach_86 (ki ..) _ _]; repeat (first | simp (disch := first | omega | decide) only [upz_srt, upy_upz, upz_up, upS_srt, upT_upS, upS_up] | simp (disch := first | with_reducible assumption | omega | decide | (simp only [ps_low, List.map_cons, List.map_nil, Value.category, List.sum_cons, List.sum_nil]; decide)) only [el_X11_teach_67, el_X11_teach_69, el_X11_teach_71, el_X11_teach_74, el_X11_teach_76, el_X11_teach_77, el_X11_teach_78, el_X11_teach_81, el_X11_teach_83, el_X11_teach_84, el_X11_teach_85, el_X11_teach_89, el_X11_teach_92, el_X11_teach_94, el_X11_teach_97, el_X11_teach_99, el_X11_teach_100, el_X11_teach_103, el_X11_teach_104, el_X11_teach_107, el_X11_teach_108, el_X11_teach_110, el_X11_teach_112, el_X11_teach_115, el_X11_teach_117, el_X11_teach_118, el_X11_teach_121, el_X11_teach_122, el_X11_teach_125, el_X11_teach_126, el_X11_teach_128, el_X11_teach_130, el_X11_teach_133, el_X11_teach_135, el_X11_teach_138, el_X11_teach_141, el_X11_teach_142, el_X11_teach_145, el_X11_teach_146, el_X11_teach_147, el_X11_teach_150, el_X11_teach_151, el_X11_teach_153, el_X11_teach_154, el_X11_teach_156, el_X11_teach_157, el_X11_teach_160, el_X11_teach_163, gf_11_2, gf_11_55, gf_11_58, px_ifp, px_ifn, zh_1, zc_1, zc_2, zc_3, zc_4, zc_5, zc_6, zc_7, zc_8, zc_9, zc_10, zc_11, zc_12, zc_20, zc_21, zc_22, zp_1, zp_2, zp_3, zp_4, zp_5, zp_6, zp_7, zp_8, zp_9, zp_10, zp_11, zp_12, zp_20, zp_21, zp_22, upS_eq, upS_ne, upS_up, upz_eq, upz_ne, upz_up, px_al_aI, px_as_aI, px_as_aZ, px_as_aC, px_ln_aI, Option.toList, List.cons_append, List.nil_append, Int.reduceAdd, Int.reduceSub, Int.reduceMul, ↓reduceIte, Nat.reduceEqDiff, eq_self, Int.reduceEq, Int.reduceLT, Int.reduceLE, Int.reduceNe, Int.reduceNeg, Int.reduceToNat, ne_eq, not_true_eq_false, not_false_eq_true, t0, t1, t2, t3, t4, t5, t6, t7, t8, t9, t10, t11, t12, t13, t14, t15, t16, t17, t18, t19, t20, t21, t22, t23, t24, t25, t26, t27, t28, t29, t30, t31, t32, t33, t34, t35, g1, g3, e6, el_X11_teach_86 (ki ..) _ _]))
                  exact nx
                · rw [if_pos ⟨g1, g2, .inl g3⟩] at ne1
                  rw [if_neg (by omega)] at ne2
                  rw [if_neg (by omega)] at ne3
                  have hni := (r4 g1).2 g3
                  have nx := nx (upS S2 (m + 29) (upz (S2 (m + 29)) (4 * n0 + i) (w i))) ⟨by rw [upS_ne (by omega)]; exact iv1, fun x h1 h2 => by rw [upS_ne h2]; exact iv2 x h1 h2, fun j hj => by rw [upS_eq, upz_ne (by omega)]; exact iv3 j hj, fun _ j hj => by
                    rw [ne3] at hj
                    rw [upS_eq]
                    by_cases ej : j = i
                    · rw [ej, upz_eq]
                    · rw [upz_ne (by omega)]
                      exact iv4 g1 j (by omega)⟩
                  rw [ne1, ne2, ne3] at nx
                  have hn0' := (r4 g1).1
                  have ek : (4 * (n0 : Int) + i).toNat = 4 * n0 + i := by omega
                  (simp (disch := first | with_reducible assumption | omega | decide | (simp only [ps_low, List.map_cons, List.map_nil, Value.category, List.sum_cons, List.sum_nil]; decide)) only [el_X11_teach_67, el_X11_teach_69, el_X11_teach_71, el_X11_teach_74, el_X11_teach_76, el_X11_teach_77, el_X11_teach_78, el_X11_teach_81, el_X11_teach_83, el_X11_teach_84, el_X11_teach_85, el_X11_teach_89, el_X11_teach_92, el_X11_teach_94, el_X11_teach_97, el_X11_teach_99, el_X11_teach_100, el_X11_teach_103, el_X11_teach_104, el_X11_teach_107, el_X11_teach_108, el_X11_teach_110, el_X11_teach_112, el_X11_teach_115, el_X11_teach_117, el_X11_teach_118, el_X11_teach_121, el_X11_teach_122, el_X11_teach_125, el_X11_teach_126, el_X11_teach_128, el_X11_teach_130, el_X11_teach_133, el_X11_teach_135, el_X11_teach_138, el_X11_teach_141, el_X11_teach_142, el_X11_teach_145, el_X11_teach_146, el_X11_teach_147, el_X11_teach_150, el_X11_teach_151, el_X11_teach_153, el_X11_teach_154, el_X11_teach_156, el_X11_teach_157, el_X11_teach_160, el_X11_teach_163, gf_11_2, gf_11_55, gf_11_58, px_ifp, px_ifn, zh_1, zc_1, zc_2, zc_3, zc_4, zc_5, zc_6, zc_7, zc_8, zc_9, zc_10, zc_11, zc_12, zc_20, zc_21, zc_22, zp_1, zp_2, zp_3, zp_4, zp_5, zp_6, zp_7, zp_8, zp_9, zp_10, zp_11, zp_12, zp_20, zp_21, zp_22, upS_eq, upS_ne, upS_up, upz_eq, upz_ne, upz_up, px_al_aI, px_as_aI, px_as_aZ, px_as_aC, px_ln_aI, Option.toList, List.cons_append, List.nil_append, Int.reduceAdd, Int.reduceSub, Int.reduceMul, ↓reduceIte, Nat.reduceEqDiff, eq_self, Int.reduceEq, Int.reduceLT, Int.reduceLE, Int.reduceNe, Int.reduceNeg, Int.reduceToNat, ne_eq, not_true_eq_false, not_false_eq_true, t0, t1, t2, t3, t4, t5, t6, t7, t8, t9, t10, t11, t12, t13, t14, t15, t16, t17, t18, t19, t20, t21, t22, t23, t24, t25, t26, t27, t28, t29, t30, t31, t32, t33, t34, t35, g1, g3, e6, e58, ek, el_X11_teach_86 (ki ..) _ _]; repeat (first | simp (disch := first | omega | decide) only [upz_srt, upy_upz, upz_up, upS_srt, upT_upS, upS_up] | simp (disch := first | with_reducible assumption | omega | decide | (simp only [ps_low, List.map_cons, List.map_nil, Value.category, List.sum_cons, List.sum_nil]; decide)) only [el_X11_teach_67, el_X11_teach_69, el_X11_teach_71, el_X11_teach_74, el_X11_teach_76, el_X11_teach_77, el_X11_teach_78, el_X11_teach_81, el_X11_teach_83, el_X11_teach_84, el_X11_teach_85, el_X11_teach_89, el_X11_teach_92, el_X11_teach_94, el_X11_teach_97, el_X11_teach_99, el_X11_teach_100, el_X11_teach_103, el_X11_teach_104, el_X11_teach_107, el_X11_teach_108, el_X11_teach_110, el_X11_teach_112, el_X11_teach_115, el_X11_teach_117, el_X11_teach_118, el_X11_teach_121, el_X11_teach_122, el_X11_teach_125, el_X11_teach_126, el_X11_teach_128, el_X11_teach_130, el_X11_teach_133, el_X11_teach_135, el_X11_teach_138, el_X11_teach_141, el_X11_teach_142, el_X11_teach_145, el_X11_teach_146, el_X11_teach_147, el_X11_teach_150, el_X11_teach_151, el_X11_teach_153, el_X11_teach_154, el_X11_teach_156, el_X11_teach_157, el_X11_teach_160, el_X11_teach_163, gf_11_2, gf_11_55, gf_11_58, px_ifp, px_ifn, zh_1, zc_1, zc_2, zc_3, zc_4, zc_5, zc_6, zc_7, zc_8, zc_9, zc_10, zc_11, zc_12, zc_20, zc_21, zc_22, zp_1, zp_2, zp_3, zp_4, zp_5, zp_6, zp_7, zp_8, zp_9, zp_10, zp_11, zp_12, zp_20, zp_21, zp_22, upS_eq, upS_ne, upS_up, upz_eq, upz_ne, upz_up, px_al_aI, px_as_aI, px_as_aZ, px_as_aC, px_ln_aI, Option.toList, List.cons_append, List.nil_append, Int.reduceAdd, Int.reduceSub, Int.reduceMul, ↓reduceIte, Nat.reduceEqDiff, eq_self, Int.reduceEq, Int.reduceLT, Int.reduceLE, Int.reduceNe, Int.reduceNeg, Int.reduceToNat, ne_eq, not_true_eq_false, not_false_eq_true, t0, t1, t2, t3, t4, t5, t6, t7, t8, t9, t10, t11, t12, t13, t14, t15, t16, t17, t18, t19, t20, t21, t22, t23, t24, t25, t26, t27, t28, t29, t30, t31, t32, t33, t34, t35, g1, g3, e6, e58, ek, el_X11_teach_86 (ki ..) _ _]))
                  exact nx
              · by_cases g4 : w i = -1
                · rw [if_pos ⟨g1, g2, .inr g4⟩] at ne1
                  rw [if_pos (.inr g4)] at ne2
                  rw [if_pos (.inl (.inr g4))] at ne3
                  have nx := nx S2 (keep ne1 ne3 g1)
                  rw [ne1, ne2, ne3] at nx
                  rw [g4] at ki nx ⊢
                  (simp (disch := first | with_reducible assumption | omega | decide | (simp only [ps_low, List.map_cons, List.map_nil, Value.category, List.sum_cons, List.sum_nil]; decide)) only [el_X11_teach_67, el_X11_teach_69, el_X11_teach_71, el_X11_teach_74, el_X11_teach_76, el_X11_teach_77, el_X11_teach_78, el_X11_teach_81, el_X11_teach_83, el_X11_teach_84, el_X11_teach_85, el_X11_teach_89, el_X11_teach_92, el_X11_teach_94, el_X11_teach_97, el_X11_teach_99, el_X11_teach_100, el_X11_teach_103, el_X11_teach_104, el_X11_teach_107, el_X11_teach_108, el_X11_teach_110, el_X11_teach_112, el_X11_teach_115, el_X11_teach_117, el_X11_teach_118, el_X11_teach_121, el_X11_teach_122, el_X11_teach_125, el_X11_teach_126, el_X11_teach_128, el_X11_teach_130, el_X11_teach_133, el_X11_teach_135, el_X11_teach_138, el_X11_teach_141, el_X11_teach_142, el_X11_teach_145, el_X11_teach_146, el_X11_teach_147, el_X11_teach_150, el_X11_teach_151, el_X11_teach_153, el_X11_teach_154, el_X11_teach_156, el_X11_teach_157, el_X11_teach_160, el_X11_teach_163, gf_11_2, gf_11_55, gf_11_58, px_ifp, px_ifn, zh_1, zc_1, zc_2, zc_3, zc_4, zc_5, zc_6, zc_7, zc_8, zc_9, zc_10, zc_11, zc_12, zc_20, zc_21, zc_22, zp_1, zp_2, zp_3, zp_4, zp_5, zp_6, zp_7, zp_8, zp_9, zp_10, zp_11, zp_12, zp_20, zp_21, zp_22, upS_eq, upS_ne, upS_up, upz_eq, upz_ne, upz_up, px_al_aI, px_as_aI, px_as_aZ, px_as_aC, px_ln_aI, Option.toList, List.cons_append, List.nil_append, Int.reduceAdd, Int.reduceSub, Int.reduceMul, ↓reduceIte, Nat.reduceEqDiff, eq_self, Int.reduceEq, Int.reduceLT, Int.reduceLE, Int.reduceNe, Int.reduceNeg, Int.reduceToNat, ne_eq, not_true_eq_false, not_false_eq_true, t0, t1, t2, t3, t4, t5, t6, t7, t8, t9, t10, t11, t12, t13, t14, t15, t16, t17, t18, t19, t20, t21, t22, t23, t24, t25, t26, t27, t28, t29, t30, t31, t32, t33, t34, t35, g1, g3, e6, el_X11_teach_86 (ki ..) _ _]; repeat (first | simp (disch := first | omega | decide) only [upz_srt, upy_upz, upz_up, upS_srt, upT_upS, upS_up] | simp (disch := first | with_reducible assumption | omega | decide | (simp only [ps_low, List.map_cons, List.map_nil, Value.category, List.sum_cons, List.sum_nil]; decide)) only [el_X11_teach_67, el_X11_teach_69, el_X11_teach_71, el_X11_teach_74, el_X11_teach_76, el_X11_teach_77, el_X11_teach_78, el_X11_teach_81, el_X11_teach_83, el_X11_teach_84, el_X11_teach_85, el_X11_teach_89, el_X11_teach_92, el_X11_teach_94, el_X11_teach_97, el_X11_teach_99, el_X11_teach_100, el_X11_teach_103, el_X11_teach_104, el_X11_teach_107, el_X11_teach_108, el_X11_teach_110, el_X11_teach_112, el_X11_teach_115, el_X11_teach_117, el_X11_teach_118, el_X11_teach_121, el_X11_teach_122, el_X11_teach_125, el_X11_teach_126, el_X11_teach_128, el_X11_teach_130, el_X11_teach_133, el_X11_teach_135, el_X11_teach_138, el_X11_teach_141, el_X11_teach_142, el_X11_teach_145, el_X11_teach_146, el_X11_teach_147, el_X11_teach_150, el_X11_teach_151, el_X11_teach_153, el_X11_teach_154, el_X11_teach_156, el_X11_teach_157, el_X11_teach_160, el_X11_teach_163, gf_11_2, gf_11_55, gf_11_58, px_ifp, px_ifn, zh_1, zc_1, zc_2, zc_3, zc_4, zc_5, zc_6, zc_7, zc_8, zc_9, zc_10, zc_11, zc_12, zc_20, zc_21, zc_22, zp_1, zp_2, zp_3, zp_4, zp_5, zp_6, zp_7, zp_8, zp_9, zp_10, zp_11, zp_12, zp_20, zp_21, zp_22, upS_eq, upS_ne, upS_up, upz_eq, upz_ne, upz_up, px_al_aI, px_as_aI, px_as_aZ, px_as_aC, px_ln_aI, Option.toList, List.cons_append, List.nil_append, Int.reduceAdd, Int.reduceSub, Int.reduceMul, ↓reduceIte, Nat.reduceEqDiff, eq_self, Int.reduceEq, Int.reduceLT, Int.reduceLE, Int.reduceNe, Int.reduceNeg, Int.reduceToNat, ne_eq, not_true_eq_false, not_false_eq_true, t0, t1, t2, t3, t4, t5, t6, t7, t8, t9, t10, t11, t12, t13, t14, t15, t16, t17, t18, t19, t20, t21, t22, t23, t24, t25, t26, t27, t28, t29, t30, t31, t32, t33, t34, t35, g1, g3, e6, el_X11_teach_86 (ki ..) _ _]))
                  exact nx
                · rw [if_neg (by omega)] at ne1
                  rw [if_pos (.inl g3)] at ne2
                  rw [if_pos (.inl (.inl g3))] at ne3
                  have nx := nx S2 (drop (by rw [ne1]; decide))
                  rw [ne1, ne2, ne3] at nx
                  (simp (disch := first | with_reducible assumption | omega | decide | (simp only [ps_low, List.map_cons, List.map_nil, Value.category, List.sum_cons, List.sum_nil]; decide)) only [el_X11_teach_67, el_X11_teach_69, el_X11_teach_71, el_X11_teach_74, el_X11_teach_76, el_X11_teach_77, el_X11_teach_78, el_X11_teach_81, el_X11_teach_83, el_X11_teach_84, el_X11_teach_85, el_X11_teach_89, el_X11_teach_92, el_X11_teach_94, el_X11_teach_97, el_X11_teach_99, el_X11_teach_100, el_X11_teach_103, el_X11_teach_104, el_X11_teach_107, el_X11_teach_108, el_X11_teach_110, el_X11_teach_112, el_X11_teach_115, el_X11_teach_117, el_X11_teach_118, el_X11_teach_121, el_X11_teach_122, el_X11_teach_125, el_X11_teach_126, el_X11_teach_128, el_X11_teach_130, el_X11_teach_133, el_X11_teach_135, el_X11_teach_138, el_X11_teach_141, el_X11_teach_142, el_X11_teach_145, el_X11_teach_146, el_X11_teach_147, el_X11_teach_150, el_X11_teach_151, el_X11_teach_153, el_X11_teach_154, el_X11_teach_156, el_X11_teach_157, el_X11_teach_160, el_X11_teach_163, gf_11_2, gf_11_55, gf_11_58, px_ifp, px_ifn, zh_1, zc_1, zc_2, zc_3, zc_4, zc_5, zc_6, zc_7, zc_8, zc_9, zc_10, zc_11, zc_12, zc_20, zc_21, zc_22, zp_1, zp_2, zp_3, zp_4, zp_5, zp_6, zp_7, zp_8, zp_9, zp_10, zp_11, zp_12, zp_20, zp_21, zp_22, upS_eq, upS_ne, upS_up, upz_eq, upz_ne, upz_up, px_al_aI, px_as_aI, px_as_aZ, px_as_aC, px_ln_aI, Option.toList, List.cons_append, List.nil_append, Int.reduceAdd, Int.reduceSub, Int.reduceMul, ↓reduceIte, Nat.reduceEqDiff, eq_self, Int.reduceEq, Int.reduceLT, Int.reduceLE, Int.reduceNe, Int.reduceNeg, Int.reduceToNat, ne_eq, not_true_eq_false, not_false_eq_true, t0, t1, t2, t3, t4, t5, t6, t7, t8, t9, t10, t11, t12, t13, t14, t15, t16, t17, t18, t19, t20, t21, t22, t23, t24, t25, t26, t27, t28, t29, t30, t31, t32, t33, t34, t35, g1, g3, e6, el_X11_teach_86 (ki ..) _ _]; repeat (first | simp (disch := first | omega | decide) only [upz_srt, upy_upz, upz_up, upS_srt, upT_upS, upS_up] | simp (disch := first | with_reducible assumption | omega | decide | (simp only [ps_low, List.map_cons, List.map_nil, Value.category, List.sum_cons, List.sum_nil]; decide)) only [el_X11_teach_67, el_X11_teach_69, el_X11_teach_71, el_X11_teach_74, el_X11_teach_76, el_X11_teach_77, el_X11_teach_78, el_X11_teach_81, el_X11_teach_83, el_X11_teach_84, el_X11_teach_85, el_X11_teach_89, el_X11_teach_92, el_X11_teach_94, el_X11_teach_97, el_X11_teach_99, el_X11_teach_100, el_X11_teach_103, el_X11_teach_104, el_X11_teach_107, el_X11_teach_108, el_X11_teach_110, el_X11_teach_112, el_X11_teach_115, el_X11_teach_117, el_X11_teach_118, el_X11_teach_121, el_X11_teach_122, el_X11_teach_125, el_X11_teach_126, el_X11_teach_128, el_X11_teach_130, el_X11_teach_133, el_X11_teach_135, el_X11_teach_138, el_X11_teach_141, el_X11_teach_142, el_X11_teach_145, el_X11_teach_146, el_X11_teach_147, el_X11_teach_150, el_X11_teach_151, el_X11_teach_153, el_X11_teach_154, el_X11_teach_156, el_X11_teach_157, el_X11_teach_160, el_X11_teach_163, gf_11_2, gf_11_55, gf_11_58, px_ifp, px_ifn, zh_1, zc_1, zc_2, zc_3, zc_4, zc_5, zc_6, zc_7, zc_8, zc_9, zc_10, zc_11, zc_12, zc_20, zc_21, zc_22, zp_1, zp_2, zp_3, zp_4, zp_5, zp_6, zp_7, zp_8, zp_9, zp_10, zp_11, zp_12, zp_20, zp_21, zp_22, upS_eq, upS_ne, upS_up, upz_eq, upz_ne, upz_up, px_al_aI, px_as_aI, px_as_aZ, px_as_aC, px_ln_aI, Option.toList, List.cons_append, List.nil_append, Int.reduceAdd, Int.reduceSub, Int.reduceMul, ↓reduceIte, Nat.reduceEqDiff, eq_self, Int.reduceEq, Int.reduceLT, Int.reduceLE, Int.reduceNe, Int.reduceNeg, Int.reduceToNat, ne_eq, not_true_eq_false, not_false_eq_true, t0, t1, t2, t3, t4, t5, t6, t7, t8, t9, t10, t11, t12, t13, t14, t15, t16, t17, t18, t19, t20, t21, t22, t23, t24, t25, t26, t27, t28, t29, t30, t31, t32, t33, t34, t35, g1, g3, e6, el_X11_teach_86 (ki ..) _ _]))
                  exact nx
            · rw [if_neg g2] at ki
              rw [if_neg (fun z => g2 z.2.1)] at ne1
              rw [if_pos (.inr (fun z => g2 z.2.1))] at ne3
              have nx := nx S2 (drop (by rw [ne1]; decide))
              rcases r2 with g3 | g3
              · rw [if_neg (by omega)] at ne2
                rw [ne1, ne2, ne3] at nx
                (simp (disch := first | with_reducible assumption | omega | decide | (simp only [ps_low, List.map_cons, List.map_nil, Value.category, List.sum_cons, List.sum_nil]; decide)) only [el_X11_teach_67, el_X11_teach_69, el_X11_teach_71, el_X11_teach_74, el_X11_teach_76, el_X11_teach_77, el_X11_teach_78, el_X11_teach_81, el_X11_teach_83, el_X11_teach_84, el_X11_teach_85, el_X11_teach_89, el_X11_teach_92, el_X11_teach_94, el_X11_teach_97, el_X11_teach_99, el_X11_teach_100, el_X11_teach_103, el_X11_teach_104, el_X11_teach_107, el_X11_teach_108, el_X11_teach_110, el_X11_teach_112, el_X11_teach_115, el_X11_teach_117, el_X11_teach_118, el_X11_teach_121, el_X11_teach_122, el_X11_teach_125, el_X11_teach_126, el_X11_teach_128, el_X11_teach_130, el_X11_teach_133, el_X11_teach_135, el_X11_teach_138, el_X11_teach_141, el_X11_teach_142, el_X11_teach_145, el_X11_teach_146, el_X11_teach_147, el_X11_teach_150, el_X11_teach_151, el_X11_teach_153, el_X11_teach_154, el_X11_teach_156, el_X11_teach_157, el_X11_teach_160, el_X11_teach_163, gf_11_2, gf_11_55, gf_11_58, px_ifp, px_ifn, zh_1, zc_1, zc_2, zc_3, zc_4, zc_5, zc_6, zc_7, zc_8, zc_9, zc_10, zc_11, zc_12, zc_20, zc_21, zc_22, zp_1, zp_2, zp_3, zp_4, zp_5, zp_6, zp_7, zp_8, zp_9, zp_10, zp_11, zp_12, zp_20, zp_21, zp_22, upS_eq, upS_ne, upS_up, upz_eq, upz_ne, upz_up, px_al_aI, px_as_aI, px_as_aZ, px_as_aC, px_ln_aI, Option.toList, List.cons_append, List.nil_append, Int.reduceAdd, Int.reduceSub, Int.reduceMul, ↓reduceIte, Nat.reduceEqDiff, eq_self, Int.reduceEq, Int.reduceLT, Int.reduceLE, Int.reduceNe, Int.reduceNeg, Int.reduceToNat, ne_eq, not_true_eq_false, not_false_eq_true, t0, t1, t2, t3, t4, t5, t6, t7, t8, t9, t10, t11, t12, t13, t14, t15, t16, t17, t18, t19, t20, t21, t22, t23, t24, t25, t26, t27, t28, t29, t30, t31, t32, t33, t34, t35, g1, g3, e6, el_X11_teach_86 (ki ..) _ _]; repeat (first | simp (disch := first | omega | decide) only [upz_srt, upy_upz, upz_up, upS_srt, upT_upS, upS_up] | simp (disch := first | with_reducible assumption | omega | decide | (simp only [ps_low, List.map_cons, List.map_nil, Value.category, List.sum_cons, List.sum_nil]; decide)) only [el_X11_teach_67, el_X11_teach_69, el_X11_teach_71, el_X11_teach_74, el_X11_teach_76, el_X11_teach_77, el_X11_teach_78, el_X11_teach_81, el_X11_teach_83, el_X11_teach_84, el_X11_teach_85, el_X11_teach_89, el_X11_teach_92, el_X11_teach_94, el_X11_teach_97, el_X11_teach_99, el_X11_teach_100, el_X11_teach_103, el_X11_teach_104, el_X11_teach_107, el_X11_teach_108, el_X11_teach_110, el_X11_teach_112, el_X11_teach_115, el_X11_teach_117, el_X11_teach_118, el_X11_teach_121, el_X11_teach_122, el_X11_teach_125, el_X11_teach_126, el_X11_teach_128, el_X11_teach_130, el_X11_teach_133, el_X11_teach_135, el_X11_teach_138, el_X11_teach_141, el_X11_teach_142, el_X11_teach_145, el_X11_teach_146, el_X11_teach_147, el_X11_teach_150, el_X11_teach_151, el_X11_teach_153, el_X11_teach_154, el_X11_teach_156, el_X11_teach_157, el_X11_teach_160, el_X11_teach_163, gf_11_2, gf_11_55, gf_11_58, px_ifp, px_ifn, zh_1, zc_1, zc_2, zc_3, zc_4, zc_5, zc_6, zc_7, zc_8, zc_9, zc_10, zc_11, zc_12, zc_20, zc_21, zc_22, zp_1, zp_2, zp_3, zp_4, zp_5, zp_6, zp_7, zp_8, zp_9, zp_10, zp_11, zp_12, zp_20, zp_21, zp_22, upS_eq, upS_ne, upS_up, upz_eq, upz_ne, upz_up, px_al_aI, px_as_aI, px_as_aZ, px_as_aC, px_ln_aI, Option.toList, List.cons_append, List.nil_append, Int.reduceAdd, Int.reduceSub, Int.reduceMul, ↓reduceIte, Nat.reduceEqDiff, eq_self, Int.reduceEq, Int.reduceLT, Int.reduceLE, Int.reduceNe, Int.reduceNeg, Int.reduceToNat, ne_eq, not_true_eq_false, not_false_eq_true, t0, t1, t2, t3, t4, t5, t6, t7, t8, t9, t10, t11, t12, t13, t14, t15, t16, t17, t18, t19, t20, t21, t22, t23, t24, t25, t26, t27, t28, t29, t30, t31, t32, t33, t34, t35, g1, g3, e6, el_X11_teach_86 (ki ..) _ _]))
                exact nx
              · rw [if_pos (.inl g3)] at ne2
                rw [ne1, ne2, ne3] at nx
                (simp (disch := first | with_reducible assumption | omega | decide | (simp only [ps_low, List.map_cons, List.map_nil, Value.category, List.sum_cons, List.sum_nil]; decide)) only [el_X11_teach_67, el_X11_teach_69, el_X11_teach_71, el_X11_teach_74, el_X11_teach_76, el_X11_teach_77, el_X11_teach_78, el_X11_teach_81, el_X11_teach_83, el_X11_teach_84, el_X11_teach_85, el_X11_teach_89, el_X11_teach_92, el_X11_teach_94, el_X11_teach_97, el_X11_teach_99, el_X11_teach_100, el_X11_teach_103, el_X11_teach_104, el_X11_teach_107, el_X11_teach_108, el_X11_teach_110, el_X11_teach_112, el_X11_teach_115, el_X11_teach_117, el_X11_teach_118, el_X11_teach_121, el_X11_teach_122, el_X11_teach_125, el_X11_teach_126, el_X11_teach_128, el_X11_teach_130, el_X11_teach_133, el_X11_teach_135, el_X11_teach_138, el_X11_teach_141, el_X11_teach_142, el_X11_teach_145, el_X11_teach_146, el_X11_teach_147, el_X11_teach_150, el_X11_teach_151, el_X11_teach_153, el_X11_teach_154, el_X11_teach_156, el_X11_teach_157, el_X11_teach_160, el_X11_teach_163, gf_11_2, gf_11_55, gf_11_58, px_ifp, px_ifn, zh_1, zc_1, zc_2, zc_3, zc_4, zc_5, zc_6, zc_7, zc_8, zc_9, zc_10, zc_11, zc_12, zc_20, zc_21, zc_22, zp_1, zp_2, zp_3, zp_4, zp_5, zp_6, zp_7, zp_8, zp_9, zp_10, zp_11, zp_12, zp_20, zp_21, zp_22, upS_eq, upS_ne, upS_up, upz_eq, upz_ne, upz_up, px_al_aI, px_as_aI, px_as_aZ, px_as_aC, px_ln_aI, Option.toList, List.cons_append, List.nil_append, Int.reduceAdd, Int.reduceSub, Int.reduceMul, ↓reduceIte, Nat.reduceEqDiff, eq_self, Int.reduceEq, Int.reduceLT, Int.reduceLE, Int.reduceNe, Int.reduceNeg, Int.reduceToNat, ne_eq, not_true_eq_false, not_false_eq_true, t0, t1, t2, t3, t4, t5, t6, t7, t8, t9, t10, t11, t12, t13, t14, t15, t16, t17, t18, t19, t20, t21, t22, t23, t24, t25, t26, t27, t28, t29, t30, t31, t32, t33, t34, t35, g1, g3, e6, el_X11_teach_86 (ki ..) _ _]; repeat (first | simp (disch := first | omega | decide) only [upz_srt, upy_upz, upz_up, upS_srt, upT_upS, upS_up] | simp (disch := first | with_reducible assumption | omega | decide | (simp only [ps_low, List.map_cons, List.map_nil, Value.category, List.sum_cons, List.sum_nil]; decide)) only [el_X11_teach_67, el_X11_teach_69, el_X11_teach_71, el_X11_teach_74, el_X11_teach_76, el_X11_teach_77, el_X11_teach_78, el_X11_teach_81, el_X11_teach_83, el_X11_teach_84, el_X11_teach_85, el_X11_teach_89, el_X11_teach_92, el_X11_teach_94, el_X11_teach_97, el_X11_teach_99, el_X11_teach_100, el_X11_teach_103, el_X11_teach_104, el_X11_teach_107, el_X11_teach_108, el_X11_teach_110, el_X11_teach_112, el_X11_teach_115, el_X11_teach_117, el_X11_teach_118, el_X11_teach_121, el_X11_teach_122, el_X11_teach_125, el_X11_teach_126, el_X11_teach_128, el_X11_teach_130, el_X11_teach_133, el_X11_teach_135, el_X11_teach_138, el_X11_teach_141, el_X11_teach_142, el_X11_teach_145, el_X11_teach_146, el_X11_teach_147, el_X11_teach_150, el_X11_teach_151, el_X11_teach_153, el_X11_teach_154, el_X11_teach_156, el_X11_teach_157, el_X11_teach_160, el_X11_teach_163, gf_11_2, gf_11_55, gf_11_58, px_ifp, px_ifn, zh_1, zc_1, zc_2, zc_3, zc_4, zc_5, zc_6, zc_7, zc_8, zc_9, zc_10, zc_11, zc_12, zc_20, zc_21, zc_22, zp_1, zp_2, zp_3, zp_4, zp_5, zp_6, zp_7, zp_8, zp_9, zp_10, zp_11, zp_12, zp_20, zp_21, zp_22, upS_eq, upS_ne, upS_up, upz_eq, upz_ne, upz_up, px_al_aI, px_as_aI, px_as_aZ, px_as_aC, px_ln_aI, Option.toList, List.cons_append, List.nil_append, Int.reduceAdd, Int.reduceSub, Int.reduceMul, ↓reduceIte, Nat.reduceEqDiff, eq_self, Int.reduceEq, Int.reduceLT, Int.reduceLE, Int.reduceNe, Int.reduceNeg, Int.reduceToNat, ne_eq, not_true_eq_false, not_false_eq_true, t0, t1, t2, t3, t4, t5, t6, t7, t8, t9, t10, t11, t12, t13, t14, t15, t16, t17, t18, t19, t20, t21, t22, t23, t24, t25, t26, t27, t28, t29, t30, t31, t32, t33, t34, t35, g1, g3, e6, el_X11_teach_86 (ki ..) _ _]))
                exact nx
          · have g1' : fi = 0 := by omega
            rw [if_neg (fun z => g1 z.1)] at ne1
            rw [if_pos (.inr (fun z => g1 z.1))] at ne3
            have nx := nx S2 (drop (by rw [ne1]; decide))
            rcases r2 with g3 | g3
            · by_cases g4 : w i = -1
              · rw [if_pos (.inr g4)] at ne2
                rw [ne1, ne2, ne3] at nx
                rw [g4] at nx ⊢
                (simp (disch := first | with_reducible assumption | omega | decide | (simp only [ps_low, List.map_cons, List.map_nil, Value.category, List.sum_cons, List.sum_nil]; decide)) only [el_X11_teach_67, el_X11_teach_69, el_X11_teach_71, el_X11_teach_74, el_X11_teach_76, el_X11_teach_77, el_X11_teach_78, el_X11_teach_81, el_X11_teach_83, el_X11_teach_84, el_X11_teach_85, el_X11_teach_89, el_X11_teach_92, el_X11_teach_94, el_X11_teach_97, el_X11_teach_99, el_X11_teach_100, el_X11_teach_103, el_X11_teach_104, el_X11_teach_107, el_X11_teach_108, el_X11_teach_110, el_X11_teach_112, el_X11_teach_115, el_X11_teach_117, el_X11_teach_118, el_X11_teach_121, el_X11_teach_122, el_X11_teach_125, el_X11_teach_126, el_X11_teach_128, el_X11_teach_130, el_X11_teach_133, el_X11_teach_135, el_X11_teach_138, el_X11_teach_141, el_X11_teach_142, el_X11_teach_145, el_X11_teach_146, el_X11_teach_147, el_X11_teach_150, el_X11_teach_151, el_X11_teach_153, el_X11_teach_154, el_X11_teach_156, el_X11_teach_157, el_X11_teach_160, el_X11_teach_163, gf_11_2, gf_11_55, gf_11_58, px_ifp, px_ifn, zh_1, zc_1, zc_2, zc_3, zc_4, zc_5, zc_6, zc_7, zc_8, zc_9, zc_10, zc_11, zc_12, zc_20, zc_21, zc_22, zp_1, zp_2, zp_3, zp_4, zp_5, zp_6, zp_7, zp_8, zp_9, zp_10, zp_11, zp_12, zp_20, zp_21, zp_22, upS_eq, upS_ne, upS_up, upz_eq, upz_ne, upz_up, px_al_aI, px_as_aI, px_as_aZ, px_as_aC, px_ln_aI, Option.toList, List.cons_append, List.nil_append, Int.reduceAdd, Int.reduceSub, Int.reduceMul, ↓reduceIte, Nat.reduceEqDiff, eq_self, Int.reduceEq, Int.reduceLT, Int.reduceLE, Int.reduceNe, Int.reduceNeg, Int.reduceToNat, ne_eq, not_true_eq_false, not_false_eq_true, t0, t1, t2, t3, t4, t5, t6, t7, t8, t9, t10, t11, t12, t13, t14, t15, t16, t17, t18, t19, t20, t21, t22, t23, t24, t25, t26, t27, t28, t29, t30, t31, t32, t33, t34, t35, g1', g3]; repeat (first | simp (disch := first | omega | decide) only [upz_srt, upy_upz, upz_up, upS_srt, upT_upS, upS_up] | simp (disch := first | with_reducible assumption | omega | decide | (simp only [ps_low, List.map_cons, List.map_nil, Value.category, List.sum_cons, List.sum_nil]; decide)) only [el_X11_teach_67, el_X11_teach_69, el_X11_teach_71, el_X11_teach_74, el_X11_teach_76, el_X11_teach_77, el_X11_teach_78, el_X11_teach_81, el_X11_teach_83, el_X11_teach_84, el_X11_teach_85, el_X11_teach_89, el_X11_teach_92, el_X11_teach_94, el_X11_teach_97, el_X11_teach_99, el_X11_teach_100, el_X11_teach_103, el_X11_teach_104, el_X11_teach_107, el_X11_teach_108, el_X11_teach_110, el_X11_teach_112, el_X11_teach_115, el_X11_teach_117, el_X11_teach_118, el_X11_teach_121, el_X11_teach_122, el_X11_teach_125, el_X11_teach_126, el_X11_teach_128, el_X11_teach_130, el_X11_teach_133, el_X11_teach_135, el_X11_teach_138, el_X11_teach_141, el_X11_teach_142, el_X11_teach_145, el_X11_teach_146, el_X11_teach_147, el_X11_teach_150, el_X11_teach_151, el_X11_teach_153, el_X11_teach_154, el_X11_teach_156, el_X11_teach_157, el_X11_teach_160, el_X11_teach_163, gf_11_2, gf_11_55, gf_11_58, px_ifp, px_ifn, zh_1, zc_1, zc_2, zc_3, zc_4, zc_5, zc_6, zc_7, zc_8, zc_9, zc_10, zc_11, zc_12, zc_20, zc_21, zc_22, zp_1, zp_2, zp_3, zp_4, zp_5, zp_6, zp_7, zp_8, zp_9, zp_10, zp_11, zp_12, zp_20, zp_21, zp_22, upS_eq, upS_ne, upS_up, upz_eq, upz_ne, upz_up, px_al_aI, px_as_aI, px_as_aZ, px_as_aC, px_ln_aI, Option.toList, List.cons_append, List.nil_append, Int.reduceAdd, Int.reduceSub, Int.reduceMul, ↓reduceIte, Nat.reduceEqDiff, eq_self, Int.reduceEq, Int.reduceLT, Int.reduceLE, Int.reduceNe, Int.reduceNeg, Int.reduceToNat, ne_eq, not_true_eq_false, not_false_eq_true, t0, t1, t2, t3, t4, t5, t6, t7, t8, t9, t10, t11, t12, t13, t14, t15, t16, t17, t18, t19, t20, t21, t22, t23, t24, t25, t26, t27, t28, t29, t30, t31, t32, t33, t34, t35, g1', g3]))
                exact nx
              · rw [if_neg (by omega)] at ne2
                rw [ne1, ne2, ne3] at nx
                (simp (disch := first | with_reducible assumption | omega | decide | (simp only [ps_low, List.map_cons, List.map_nil, Value.category, List.sum_cons, List.sum_nil]; decide)) only [el_X11_teach_67, el_X11_teach_69, el_X11_teach_71, el_X11_teach_74, el_X11_teach_76, el_X11_teach_77, el_X11_teach_78, el_X11_teach_81, el_X11_teach_83, el_X11_teach_84, el_X11_teach_85, el_X11_teach_89, el_X11_teach_92, el_X11_teach_94, el_X11_teach_97, el_X11_teach_99, el_X11_teach_100, el_X11_teach_103, el_X11_teach_104, el_X11_teach_107, el_X11_teach_108, el_X11_teach_110, el_X11_teach_112, el_X11_teach_115, el_X11_teach_117, el_X11_teach_118, el_X11_teach_121, el_X11_teach_122, el_X11_teach_125, el_X11_teach_126, el_X11_teach_128, el_X11_teach_130, el_X11_teach_133, el_X11_teach_135, el_X11_teach_138, el_X11_teach_141, el_X11_teach_142, el_X11_teach_145, el_X11_teach_146, el_X11_teach_147, el_X11_teach_150, el_X11_teach_151, el_X11_teach_153, el_X11_teach_154, el_X11_teach_156, el_X11_teach_157, el_X11_teach_160, el_X11_teach_163, gf_11_2, gf_11_55, gf_11_58, px_ifp, px_ifn, zh_1, zc_1, zc_2, zc_3, zc_4, zc_5, zc_6, zc_7, zc_8, zc_9, zc_10, zc_11, zc_12, zc_20, zc_21, zc_22, zp_1, zp_2, zp_3, zp_4, zp_5, zp_6, zp_7, zp_8, zp_9, zp_10, zp_11, zp_12, zp_20, zp_21, zp_22, upS_eq, upS_ne, upS_up, upz_eq, upz_ne, upz_up, px_al_aI, px_as_aI, px_as_aZ, px_as_aC, px_ln_aI, Option.toList, List.cons_append, List.nil_append, Int.reduceAdd, Int.reduceSub, Int.reduceMul, ↓reduceIte, Nat.reduceEqDiff, eq_self, Int.reduceEq, Int.reduceLT, Int.reduceLE, Int.reduceNe, Int.reduceNeg, Int.reduceToNat, ne_eq, not_true_eq_false, not_false_eq_true, t0, t1, t2, t3, t4, t5, t6, t7, t8, t9, t10, t11, t12, t13, t14, t15, t16, t17, t18, t19, t20, t21, t22, t23, t24, t25, t26, t27, t28, t29, t30, t31, t32, t33, t34, t35, g1', g3]; repeat (first | simp (disch := first | omega | decide) only [upz_srt, upy_upz, upz_up, upS_srt, upT_upS, upS_up] | simp (disch := first | with_reducible assumption | omega | decide | (simp only [ps_low, List.map_cons, List.map_nil, Value.category, List.sum_cons, List.sum_nil]; decide)) only [el_X11_teach_67, el_X11_teach_69, el_X11_teach_71, el_X11_teach_74, el_X11_teach_76, el_X11_teach_77, el_X11_teach_78, el_X11_teach_81, el_X11_teach_83, el_X11_teach_84, el_X11_teach_85, el_X11_teach_89, el_X11_teach_92, el_X11_teach_94, el_X11_teach_97, el_X11_teach_99, el_X11_teach_100, el_X11_teach_103, el_X11_teach_104, el_X11_teach_107, el_X11_teach_108, el_X11_teach_110, el_X11_teach_112, el_X11_teach_115, el_X11_teach_117, el_X11_teach_118, el_X11_teach_121, el_X11_teach_122, el_X11_teach_125, el_X11_teach_126, el_X11_teach_128, el_X11_teach_130, el_X11_teach_133, el_X11_teach_135, el_X11_teach_138, el_X11_teach_141, el_X11_teach_142, el_X11_teach_145, el_X11_teach_146, el_X11_teach_147, el_X11_teach_150, el_X11_teach_151, el_X11_teach_153, el_X11_teach_154, el_X11_teach_156, el_X11_teach_157, el_X11_teach_160, el_X11_teach_163, gf_11_2, gf_11_55, gf_11_58, px_ifp, px_ifn, zh_1, zc_1, zc_2, zc_3, zc_4, zc_5, zc_6, zc_7, zc_8, zc_9, zc_10, zc_11, zc_12, zc_20, zc_21, zc_22, zp_1, zp_2, zp_3, zp_4, zp_5, zp_6, zp_7, zp_8, zp_9, zp_10, zp_11, zp_12, zp_20, zp_21, zp_22, upS_eq, upS_ne, upS_up, upz_eq, upz_ne, upz_up, px_al_aI, px_as_aI, px_as_aZ, px_as_aC, px_ln_aI, Option.toList, List.cons_append, List.nil_append, Int.reduceAdd, Int.reduceSub, Int.reduceMul, ↓reduceIte, Nat.reduceEqDiff, eq_self, Int.reduceEq, Int.reduceLT, Int.reduceLE, Int.reduceNe, Int.reduceNeg, Int.reduceToNat, ne_eq, not_true_eq_false, not_false_eq_true, t0, t1, t2, t3, t4, t5, t6, t7, t8, t9, t10, t11, t12, t13, t14, t15, t16, t17, t18, t19, t20, t21, t22, t23, t24, t25, t26, t27, t28, t29, t30, t31, t32, t33, t34, t35, g1', g3]))
                exact nx
            · rw [if_pos (.inl g3)] at ne2
              rw [ne1, ne2, ne3] at nx
              (simp (disch := first | with_reducible assumption | omega | decide | (simp only [ps_low, List.map_cons, List.map_nil, Value.category, List.sum_cons, List.sum_nil]; decide)) only [el_X11_teach_67, el_X11_teach_69, el_X11_teach_71, el_X11_teach_74, el_X11_teach_76, el_X11_teach_77, el_X11_teach_78, el_X11_teach_81, el_X11_teach_83, el_X11_teach_84, el_X11_teach_85, el_X11_teach_89, el_X11_teach_92, el_X11_teach_94, el_X11_teach_97, el_X11_teach_99, el_X11_teach_100, el_X11_teach_103, el_X11_teach_104, el_X11_teach_107, el_X11_teach_108, el_X11_teach_110, el_X11_teach_112, el_X11_teach_115, el_X11_teach_117, el_X11_teach_118, el_X11_teach_121, el_X11_teach_122, el_X11_teach_125, el_X11_teach_126, el_X11_teach_128, el_X11_teach_130, el_X11_teach_133, el_X11_teach_135, el_X11_teach_138, el_X11_teach_141, el_X11_teach_142, el_X11_teach_145, el_X11_teach_146, el_X11_teach_147, el_X11_teach_150, el_X11_teach_151, el_X11_teach_153, el_X11_teach_154, el_X11_teach_156, el_X11_teach_157, el_X11_teach_160, el_X11_teach_163, gf_11_2, gf_11_55, gf_11_58, px_ifp, px_ifn, zh_1, zc_1, zc_2, zc_3, zc_4, zc_5, zc_6, zc_7, zc_8, zc_9, zc_10, zc_11, zc_12, zc_20, zc_21, zc_22, zp_1, zp_2, zp_3, zp_4, zp_5, zp_6, zp_7, zp_8, zp_9, zp_10, zp_11, zp_12, zp_20, zp_21, zp_22, upS_eq, upS_ne, upS_up, upz_eq, upz_ne, upz_up, px_al_aI, px_as_aI, px_as_aZ, px_as_aC, px_ln_aI, Option.toList, List.cons_append, List.nil_append, Int.reduceAdd, Int.reduceSub, Int.reduceMul, ↓reduceIte, Nat.reduceEqDiff, eq_self, Int.reduceEq, Int.reduceLT, Int.reduceLE, Int.reduceNe, Int.reduceNeg, Int.reduceToNat, ne_eq, not_true_eq_false, not_false_eq_true, t0, t1, t2, t3, t4, t5, t6, t7, t8, t9, t10, t11, t12, t13, t14, t15, t16, t17, t18, t19, t20, t21, t22, t23, t24, t25, t26, t27, t28, t29, t30, t31, t32, t33, t34, t35, g1', g3]; repeat (first | simp (disch := first | omega | decide) only [upz_srt, upy_upz, upz_up, upS_srt, upT_upS, upS_up] | simp (disch := first | with_reducible assumption | omega | decide | (simp only [ps_low, List.map_cons, List.map_nil, Value.category, List.sum_cons, List.sum_nil]; decide)) only [el_X11_teach_67, el_X11_teach_69, el_X11_teach_71, el_X11_teach_74, el_X11_teach_76, el_X11_teach_77, el_X11_teach_78, el_X11_teach_81, el_X11_teach_83, el_X11_teach_84, el_X11_teach_85, el_X11_teach_89, el_X11_teach_92, el_X11_teach_94, el_X11_teach_97, el_X11_teach_99, el_X11_teach_100, el_X11_teach_103, el_X11_teach_104, el_X11_teach_107, el_X11_teach_108, el_X11_teach_110, el_X11_teach_112, el_X11_teach_115, el_X11_teach_117, el_X11_teach_118, el_X11_teach_121, el_X11_teach_122, el_X11_teach_125, el_X11_teach_126, el_X11_teach_128, el_X11_teach_130, el_X11_teach_133, el_X11_teach_135, el_X11_teach_138, el_X11_teach_141, el_X11_teach_142, el_X11_teach_145, el_X11_teach_146, el_X11_teach_147, el_X11_teach_150, el_X11_teach_151, el_X11_teach_153, el_X11_teach_154, el_X11_teach_156, el_X11_teach_157, el_X11_teach_160, el_X11_teach_163, gf_11_2, gf_11_55, gf_11_58, px_ifp, px_ifn, zh_1, zc_1, zc_2, zc_3, zc_4, zc_5, zc_6, zc_7, zc_8, zc_9, zc_10, zc_11, zc_12, zc_20, zc_21, zc_22, zp_1, zp_2, zp_3, zp_4, zp_5, zp_6, zp_7, zp_8, zp_9, zp_10, zp_11, zp_12, zp_20, zp_21, zp_22, upS_eq, upS_ne, upS_up, upz_eq, upz_ne, upz_up, px_al_aI, px_as_aI, px_as_aZ, px_as_aC, px_ln_aI, Option.toList, List.cons_append, List.nil_append, Int.reduceAdd, Int.reduceSub, Int.reduceMul, ↓reduceIte, Nat.reduceEqDiff, eq_self, Int.reduceEq, Int.reduceLT, Int.reduceLE, Int.reduceNe, Int.reduceNeg, Int.reduceToNat, ne_eq, not_true_eq_false, not_false_eq_true, t0, t1, t2, t3, t4, t5, t6, t7, t8, t9, t10, t11, t12, t13, t14, t15, t16, t17, t18, t19, t20, t21, t22, t23, t24, t25, t26, t27, t28, t29, t30, t31, t32, t33, t34, t35, g1', g3]))
              exact nx
        rw [el_X11_teach_30]
        generalize sf i = s at *
        rcases (show i = 0 ∨ i = 1 ∨ i = 2 ∨ i = 3 by omega) with rfl | rfl | rfl | rfl
        · rw [w0] at st
          (simp (disch := first | with_reducible assumption | omega | decide | (simp only [ps_low, List.map_cons, List.map_nil, Value.category, List.sum_cons, List.sum_nil]; decide)) only [el_X11_teach_32, el_X11_teach_33, el_X11_teach_36, el_X11_teach_38, el_X11_teach_41, el_X11_teach_42, el_X11_teach_45, el_X11_teach_47, el_X11_teach_48, el_X11_teach_51, el_X11_teach_52, el_X11_teach_55, el_X11_teach_57, el_X11_teach_58, el_X11_teach_61, el_X11_teach_62, el_X11_teach_65, px_ifp, px_ifn, zh_1, zc_1, zc_2, zc_3, zc_4, zc_5, zc_6, zc_7, zc_8, zc_9, zc_10, zc_11, zc_12, zc_20, zc_21, zc_22, zp_1, zp_2, zp_3, zp_4, zp_5, zp_6, zp_7, zp_8, zp_9, zp_10, zp_11, zp_12, zp_20, zp_21, zp_22, upS_eq, upS_ne, upS_up, upz_eq, upz_ne, upz_up, px_al_aI, px_as_aI, px_as_aZ, px_as_aC, px_ln_aI, Option.toList, List.cons_append, List.nil_append, Int.reduceAdd, Int.reduceSub, Int.reduceMul, ↓reduceIte, Nat.reduceEqDiff, eq_self, Int.reduceEq, Int.reduceLT, Int.reduceLE, Int.reduceNe, Int.reduceNeg, Int.reduceToNat, ne_eq, not_true_eq_false, not_false_eq_true, t0, t1, t2, t3, t4, t5, t6, t7, t8, t9, t10, t11, t12, t13, t14, t15, t16, t17, t18, t19, t20, t21, t22, t23, t24, t25, t26, t27, t28, t29, t30, t31, t32, t33, t34, t35]; repeat (first | simp (disch := first | omega | decide) only [upz_srt, upy_upz, upz_up, upS_srt, upT_upS, upS_up] | simp (disch := first | with_reducible assumption | omega | decide | (simp only [ps_low, List.map_cons, List.map_nil, Value.category, List.sum_cons, List.sum_nil]; decide)) only [el_X11_teach_32, el_X11_teach_33, el_X11_teach_36, el_X11_teach_38, el_X11_teach_41, el_X11_teach_42, el_X11_teach_45, el_X11_teach_47, el_X11_teach_48, el_X11_teach_51, el_X11_teach_52, el_X11_teach_55, el_X11_teach_57, el_X11_teach_58, el_X11_teach_61, el_X11_teach_62, el_X11_teach_65, px_ifp, px_ifn, zh_1, zc_1, zc_2, zc_3, zc_4, zc_5, zc_6, zc_7, zc_8, zc_9, zc_10, zc_11, zc_12, zc_20, zc_21, zc_22, zp_1, zp_2, zp_3, zp_4, zp_5, zp_6, zp_7, zp_8, zp_9, zp_10, zp_11, zp_12, zp_20, zp_21, zp_22, upS_eq, upS_ne, upS_up, upz_eq, upz_ne, upz_up, px_al_aI, px_as_aI, px_as_aZ, px_as_aC, px_ln_aI, Option.toList, List.cons_append, List.nil_append, Int.reduceAdd, Int.reduceSub, Int.reduceMul, ↓reduceIte, Nat.reduceEqDiff, eq_self, Int.reduceEq, Int.reduceLT, Int.reduceLE, Int.reduceNe, Int.reduceNeg, Int.reduceToNat, ne_eq, not_true_eq_false, not_false_eq_true, t0, t1, t2, t3, t4, t5, t6, t7, t8, t9, t10, t11, t12, t13, t14, t15, t16, t17, t18, t19, t20, t21, t22, t23, t24, t25, t26, t27, t28, t29, t30, t31, t32, t33, t34, t35]))
          exact st
        · rw [w1] at st
          (simp (disch := first | with_reducible assumption | omega | decide | (simp only [ps_low, List.map_cons, List.map_nil, Value.category, List.sum_cons, List.sum_nil]; decide)) only [el_X11_teach_32, el_X11_teach_33, el_X11_teach_36, el_X11_teach_38, el_X11_teach_41, el_X11_teach_42, el_X11_teach_45, el_X11_teach_47, el_X11_teach_48, el_X11_teach_51, el_X11_teach_52, el_X11_teach_55, el_X11_teach_57, el_X11_teach_58, el_X11_teach_61, el_X11_teach_62, el_X11_teach_65, px_ifp, px_ifn, zh_1, zc_1, zc_2, zc_3, zc_4, zc_5, zc_6, zc_7, zc_8, zc_9, zc_10, zc_11, zc_12, zc_20, zc_21, zc_22, zp_1, zp_2, zp_3, zp_4, zp_5, zp_6, zp_7, zp_8, zp_9, zp_10, zp_11, zp_12, zp_20, zp_21, zp_22, upS_eq, upS_ne, upS_up, upz_eq, upz_ne, upz_up, px_al_aI, px_as_aI, px_as_aZ, px_as_aC, px_ln_aI, Option.toList, List.cons_append, List.nil_append, Int.reduceAdd, Int.reduceSub, Int.reduceMul, ↓reduceIte, Nat.reduceEqDiff, eq_self, Int.reduceEq, Int.reduceLT, Int.reduceLE, Int.reduceNe, Int.reduceNeg, Int.reduceToNat, ne_eq, not_true_eq_false, not_false_eq_true, t0, t1, t2, t3, t4, t5, t6, t7, t8, t9, t10, t11, t12, t13, t14, t15, t16, t17, t18, t19, t20, t21, t22, t23, t24, t25, t26, t27, t28, t29, t30, t31, t32, t33, t34, t35]; repeat (first | simp (disch := first | omega | decide) only [upz_srt, upy_upz, upz_up, upS_srt, upT_upS, upS_up] | simp (disch := first | with_reducible assumption | omega | decide | (simp only [ps_low, List.map_cons, List.map_nil, Value.category, List.sum_cons, List.sum_nil]; decide)) only [el_X11_teach_32, el_X11_teach_33, el_X11_teach_36, el_X11_teach_38, el_X11_teach_41, el_X11_teach_42, el_X11_teach_45, el_X11_teach_47, el_X11_teach_48, el_X11_teach_51, el_X11_teach_52, el_X11_teach_55, el_X11_teach_57, el_X11_teach_58, el_X11_teach_61, el_X11_teach_62, el_X11_teach_65, px_ifp, px_ifn, zh_1, zc_1, zc_2, zc_3, zc_4, zc_5, zc_6, zc_7, zc_8, zc_9, zc_10, zc_11, zc_12, zc_20, zc_21, zc_22, zp_1, zp_2, zp_3, zp_4, zp_5, zp_6, zp_7, zp_8, zp_9, zp_10, zp_11, zp_12, zp_20, zp_21, zp_22, upS_eq, upS_ne, upS_up, upz_eq, upz_ne, upz_up, px_al_aI, px_as_aI, px_as_aZ, px_as_aC, px_ln_aI, Option.toList, List.cons_append, List.nil_append, Int.reduceAdd, Int.reduceSub, Int.reduceMul, ↓reduceIte, Nat.reduceEqDiff, eq_self, Int.reduceEq, Int.reduceLT, Int.reduceLE, Int.reduceNe, Int.reduceNeg, Int.reduceToNat, ne_eq, not_true_eq_false, not_false_eq_true, t0, t1, t2, t3, t4, t5, t6, t7, t8, t9, t10, t11, t12, t13, t14, t15, t16, t17, t18, t19, t20, t21, t22, t23, t24, t25, t26, t27, t28, t29, t30, t31, t32, t33, t34, t35]))
          exact st
        · rw [w2] at st
          (simp (disch := first | with_reducible assumption | omega | decide | (simp only [ps_low, List.map_cons, List.map_nil, Value.category, List.sum_cons, List.sum_nil]; decide)) only [el_X11_teach_32, el_X11_teach_33, el_X11_teach_36, el_X11_teach_38, el_X11_teach_41, el_X11_teach_42, el_X11_teach_45, el_X11_teach_47, el_X11_teach_48, el_X11_teach_51, el_X11_teach_52, el_X11_teach_55, el_X11_teach_57, el_X11_teach_58, el_X11_teach_61, el_X11_teach_62, el_X11_teach_65, px_ifp, px_ifn, zh_1, zc_1, zc_2, zc_3, zc_4, zc_5, zc_6, zc_7, zc_8, zc_9, zc_10, zc_11, zc_12, zc_20, zc_21, zc_22, zp_1, zp_2, zp_3, zp_4, zp_5, zp_6, zp_7, zp_8, zp_9, zp_10, zp_11, zp_12, zp_20, zp_21, zp_22, upS_eq, upS_ne, upS_up, upz_eq, upz_ne, upz_up, px_al_aI, px_as_aI, px_as_aZ, px_as_aC, px_ln_aI, Option.toList, List.cons_append, List.nil_append, Int.reduceAdd, Int.reduceSub, Int.reduceMul, ↓reduceIte, Nat.reduceEqDiff, eq_self, Int.reduceEq, Int.reduceLT, Int.reduceLE, Int.reduceNe, Int.reduceNeg, Int.reduceToNat, ne_eq, not_true_eq_false, not_false_eq_true, t0, t1, t2, t3, t4, t5, t6, t7, t8, t9, t10, t11, t12, t13, t14, t15, t16, t17, t18, t19, t20, t21, t22, t23, t24, t25, t26, t27, t28, t29, t30, t31, t32, t33, t34, t35]; repeat (first | simp (disch := first | omega | decide) only [upz_srt, upy_upz, upz_up, upS_srt, upT_upS, upS_up] | simp (disch := first | with_reducible assumption | omega | decide | (simp only [ps_low, List.map_cons, List.map_nil, Value.category, List.sum_cons, List.sum_nil]; decide)) only [el_X11_teach_32, el_X11_teach_33, el_X11_teach_36, el_X11_teach_38, el_X11_teach_41, el_X11_teach_42, el_X11_teach_45, el_X11_teach_47, el_X11_teach_48, el_X11_teach_51, el_X11_teach_52, el_X11_teach_55, el_X11_teach_57, el_X11_teach_58, el_X11_teach_61, el_X11_teach_62, el_X11_teach_65, px_ifp, px_ifn, zh_1, zc_1, zc_2, zc_3, zc_4, zc_5, zc_6, zc_7, zc_8, zc_9, zc_10, zc_11, zc_12, zc_20, zc_21, zc_22, zp_1, zp_2, zp_3, zp_4, zp_5, zp_6, zp_7, zp_8, zp_9, zp_10, zp_11, zp_12, zp_20, zp_21, zp_22, upS_eq, upS_ne, upS_up, upz_eq, upz_ne, upz_up, px_al_aI, px_as_aI, px_as_aZ, px_as_aC, px_ln_aI, Option.toList, List.cons_append, List.nil_append, Int.reduceAdd, Int.reduceSub, Int.reduceMul, ↓reduceIte, Nat.reduceEqDiff, eq_self, Int.reduceEq, Int.reduceLT, Int.reduceLE, Int.reduceNe, Int.reduceNeg, Int.reduceToNat, ne_eq, not_true_eq_false, not_false_eq_true, t0, t1, t2, t3, t4, t5, t6, t7, t8, t9, t10, t11, t12, t13, t14, t15, t16, t17, t18, t19, t20, t21, t22, t23, t24, t25, t26, t27, t28, t29, t30, t31, t32, t33, t34, t35]))
          exact st
        · rw [w3] at st
          (simp (disch := first | with_reducible assumption | omega | decide | (simp only [ps_low, List.map_cons, List.map_nil, Value.category, List.sum_cons, List.sum_nil]; decide)) only [el_X11_teach_32, el_X11_teach_33, el_X11_teach_36, el_X11_teach_38, el_X11_teach_41, el_X11_teach_42, el_X11_teach_45, el_X11_teach_47, el_X11_teach_48, el_X11_teach_51, el_X11_teach_52, el_X11_teach_55, el_X11_teach_57, el_X11_teach_58, el_X11_teach_61, el_X11_teach_62, el_X11_teach_65, px_ifp, px_ifn, zh_1, zc_1, zc_2, zc_3, zc_4, zc_5, zc_6, zc_7, zc_8, zc_9, zc_10, zc_11, zc_12, zc_20, zc_21, zc_22, zp_1, zp_2, zp_3, zp_4, zp_5, zp_6, zp_7, zp_8, zp_9, zp_10, zp_11, zp_12, zp_20, zp_21, zp_22, upS_eq, upS_ne, upS_up, upz_eq, upz_ne, upz_up, px_al_aI, px_as_aI, px_as_aZ, px_as_aC, px_ln_aI, Option.toList, List.cons_append, List.nil_append, Int.reduceAdd, Int.reduceSub, Int.reduceMul, ↓reduceIte, Nat.reduceEqDiff, eq_self, Int.reduceEq, Int.reduceLT, Int.reduceLE, Int.reduceNe, Int.reduceNeg, Int.reduceToNat, ne_eq, not_true_eq_false, not_false_eq_true, t0, t1, t2, t3, t4, t5, t6, t7, t8, t9, t10, t11, t12, t13, t14, t15, t16, t17, t18, t19, t20, t21, t22, t23, t24, t25, t26, t27, t28, t29, t30, t31, t32, t33, t34, t35]; repeat (first | simp (disch := first | omega | decide) only [upz_srt, upy_upz, upz_up, upS_srt, upT_upS, upS_up] | simp (disch := first | with_reducible assumption | omega | decide | (simp only [ps_low, List.map_cons, List.map_nil, Value.category, List.sum_cons, List.sum_nil]; decide)) only [el_X11_teach_32, el_X11_teach_33, el_X11_teach_36, el_X11_teach_38, el_X11_teach_41, el_X11_teach_42, el_X11_teach_45, el_X11_teach_47, el_X11_teach_48, el_X11_teach_51, el_X11_teach_52, el_X11_teach_55, el_X11_teach_57, el_X11_teach_58, el_X11_teach_61, el_X11_teach_62, el_X11_teach_65, px_ifp, px_ifn, zh_1, zc_1, zc_2, zc_3, zc_4, zc_5, zc_6, zc_7, zc_8, zc_9, zc_10, zc_11, zc_12, zc_20, zc_21, zc_22, zp_1, zp_2, zp_3, zp_4, zp_5, zp_6, zp_7, zp_8, zp_9, zp_10, zp_11, zp_12, zp_20, zp_21, zp_22, upS_eq, upS_ne, upS_up, upz_eq, upz_ne, upz_up, px_al_aI, px_as_aI, px_as_aZ, px_as_aC, px_ln_aI, Option.toList, List.cons_append, List.nil_append, Int.reduceAdd, Int.reduceSub, Int.reduceMul, ↓reduceIte, Nat.reduceEqDiff, eq_self, Int.reduceEq, Int.reduceLT, Int.reduceLE, Int.reduceNe, Int.reduceNeg, Int.reduceToNat, ne_eq, not_true_eq_false, not_false_eq_true, t0, t1, t2, t3, t4, t5, t6, t7, t8, t9, t10, t11, t12, t13, t14, t15, t16, t17, t18, t19, t20, t21, t22, t23, t24, t25, t26, t27, t28, t29, t30, t31, t32, t33, t34, t35]))
          exact st
    have l0 := loop 4 0 (upS S m (upz (S m) 1 0)) (.retAddr 0) (by omega) ⟨upS_eq, fun x h1 h2 => upS_ne h1, fun j hj => by rw [upS_ne (by omega)], fun _ j hj => by rw [sf0] at hj; exfalso; change (j : Int) < 0 at hj; omega⟩
    rw [sf0] at l0
    have ez : ((0 : Nat) : Int) = 0 := rfl
    rw [ez] at l0
    by_cases g : n0 < 12
    · rw [if_pos g] at l0
      (simp (disch := first | with_reducible assumption | omega | decide | (simp only [ps_low, List.map_cons, List.map_nil, Value.category, List.sum_cons, List.sum_nil]; decide)) only [el_X11_teach_0, el_X11_teach_1, el_X11_teach_2, el_X11_teach_5, el_X11_teach_6, el_X11_teach_8, el_X11_teach_9, el_X11_teach_12, el_X11_teach_14, el_X11_teach_17, el_X11_teach_18, el_X11_teach_21, el_X11_teach_22, el_X11_teach_24, el_X11_teach_25, el_X11_teach_27, el_X11_teach_28, gf_11_58, pf_11_1, px_ifp, px_ifn, zh_1, zc_1, zc_2, zc_3, zc_4, zc_5, zc_6, zc_7, zc_8, zc_9, zc_10, zc_11, zc_12, zc_20, zc_21, zc_22, zp_1, zp_2, zp_3, zp_4, zp_5, zp_6, zp_7, zp_8, zp_9, zp_10, zp_11, zp_12, zp_20, zp_21, zp_22, upS_eq, upS_ne, upS_up, upz_eq, upz_ne, upz_up, px_al_aI, px_as_aI, px_as_aZ, px_as_aC, px_ln_aI, Option.toList, List.cons_append, List.nil_append, Int.reduceAdd, Int.reduceSub, Int.reduceMul, ↓reduceIte, Nat.reduceEqDiff, eq_self, Int.reduceEq, Int.reduceLT, Int.reduceLE, Int.reduceNe, Int.reduceNeg, Int.reduceToNat, ne_eq, not_true_eq_false, not_false_eq_true, t0, t1, t2, t3, t4, t5, t6, t7, t8, t9, t10, t11, t12, t13, t14, t15, t16, t17, t18, t19, t20, t21, t22, t23, t24, t25, t26, t27, t28, t29, t30, t31, t32, t33, t34, t35, n58]; repeat (first | simp (disch := first | omega | decide) only [upz_srt, upy_upz, upz_up, upS_srt, upT_upS, upS_up] | simp (disch := first | with_reducible assumption | omega | decide | (simp only [ps_low, List.map_cons, List.map_nil, Value.category, List.sum_cons, List.sum_nil]; decide)) only [el_X11_teach_0, el_X11_teach_1, el_X11_teach_2, el_X11_teach_5, el_X11_teach_6, el_X11_teach_8, el_X11_teach_9, el_X11_teach_12, el_X11_teach_14, el_X11_teach_17, el_X11_teach_18, el_X11_teach_21, el_X11_teach_22, el_X11_teach_24, el_X11_teach_25, el_X11_teach_27, el_X11_teach_28, gf_11_58, pf_11_1, px_ifp, px_ifn, zh_1, zc_1, zc_2, zc_3, zc_4, zc_5, zc_6, zc_7, zc_8, zc_9, zc_10, zc_11, zc_12, zc_20, zc_21, zc_22, zp_1, zp_2, zp_3, zp_4, zp_5, zp_6, zp_7, zp_8, zp_9, zp_10, zp_11, zp_12, zp_20, zp_21, zp_22, upS_eq, upS_ne, upS_up, upz_eq, upz_ne, upz_up, px_al_aI, px_as_aI, px_as_aZ, px_as_aC, px_ln_aI, Option.toList, List.cons_append, List.nil_append, Int.reduceAdd, Int.reduceSub, Int.reduceMul, ↓reduceIte, Nat.reduceEqDiff, eq_self, Int.reduceEq, Int.reduceLT, Int.reduceLE, Int.reduceNe, Int.reduceNeg, Int.reduceToNat, ne_eq, not_true_eq_false, not_false_eq_true, t0, t1, t2, t3, t4, t5, t6, t7, t8, t9, t10, t11, t12, t13, t14, t15, t16, t17, t18, t19, t20, t21, t22, t23, t24, t25, t26, t27, t28, t29, t30, t31, t32, t33, t34, t35, n58]))
      exact l0
    · rw [if_neg g] at l0
      (simp (disch := first | with_reducible assumption | omega | decide | (simp only [ps_low, List.map_cons, List.map_nil, Value.category, List.sum_cons, List.sum_nil]; decide)) only [el_X11_teach_0, el_X11_teach_1, el_X11_teach_2, el_X11_teach_5, el_X11_teach_6, el_X11_teach_8, el_X11_teach_9, el_X11_teach_12, el_X11_teach_14, el_X11_teach_17, el_X11_teach_18, el_X11_teach_21, el_X11_teach_22, el_X11_teach_24, el_X11_teach_25, el_X11_teach_27, el_X11_teach_28, gf_11_58, pf_11_1, px_ifp, px_ifn, zh_1, zc_1, zc_2, zc_3, zc_4, zc_5, zc_6, zc_7, zc_8, zc_9, zc_10, zc_11, zc_12, zc_20, zc_21, zc_22, zp_1, zp_2, zp_3, zp_4, zp_5, zp_6, zp_7, zp_8, zp_9, zp_10, zp_11, zp_12, zp_20, zp_21, zp_22, upS_eq, upS_ne, upS_up, upz_eq, upz_ne, upz_up, px_al_aI, px_as_aI, px_as_aZ, px_as_aC, px_ln_aI, Option.toList, List.cons_append, List.nil_append, Int.reduceAdd, Int.reduceSub, Int.reduceMul, ↓reduceIte, Nat.reduceEqDiff, eq_self, Int.reduceEq, Int.reduceLT, Int.reduceLE, Int.reduceNe, Int.reduceNeg, Int.reduceToNat, ne_eq, not_true_eq_false, not_false_eq_true, t0, t1, t2, t3, t4, t5, t6, t7, t8, t9, t10, t11, t12, t13, t14, t15, t16, t17, t18, t19, t20, t21, t22, t23, t24, t25, t26, t27, t28, t29, t30, t31, t32, t33, t34, t35, n58]; repeat (first | simp (disch := first | omega | decide) only [upz_srt, upy_upz, upz_up, upS_srt, upT_upS, upS_up] | simp (disch := first | with_reducible assumption | omega | decide | (simp only [ps_low, List.map_cons, List.map_nil, Value.category, List.sum_cons, List.sum_nil]; decide)) only [el_X11_teach_0, el_X11_teach_1, el_X11_teach_2, el_X11_teach_5, el_X11_teach_6, el_X11_teach_8, el_X11_teach_9, el_X11_teach_12, el_X11_teach_14, el_X11_teach_17, el_X11_teach_18, el_X11_teach_21, el_X11_teach_22, el_X11_teach_24, el_X11_teach_25, el_X11_teach_27, el_X11_teach_28, gf_11_58, pf_11_1, px_ifp, px_ifn, zh_1, zc_1, zc_2, zc_3, zc_4, zc_5, zc_6, zc_7, zc_8, zc_9, zc_10, zc_11, zc_12, zc_20, zc_21, zc_22, zp_1, zp_2, zp_3, zp_4, zp_5, zp_6, zp_7, zp_8, zp_9, zp_10, zp_11, zp_12, zp_20, zp_21, zp_22, upS_eq, upS_ne, upS_up, upz_eq, upz_ne, upz_up, px_al_aI, px_as_aI, px_as_aZ, px_as_aC, px_ln_aI, Option.toList, List.cons_append, List.nil_append, Int.reduceAdd, Int.reduceSub, Int.reduceMul, ↓reduceIte, Nat.reduceEqDiff, eq_self, Int.reduceEq, Int.reduceLT, Int.reduceLE, Int.reduceNe, Int.reduceNeg, Int.reduceToNat, ne_eq, not_true_eq_false, not_false_eq_true, t0, t1, t2, t3, t4, t5, t6, t7, t8, t9, t10, t11, t12, t13, t14, t15, t16, t17, t18, t19, t20, t21, t22, t23, t24, t25, t26, t27, t28, t29, t30, t31, t32, t33, t34, t35, n58]))
      exact l0
  have s4r := sfr 4
  have hlat : (n0 < 12 → (((sf 4).1 = 1 ∧ teN F.1 a b d e = (sf 4).2.2) ∨ ((sf 4).1 = 0 ∧ teN F.1 a b d e = -1))) ∧ (¬ n0 < 12 → (sf 4).1 = 0) := by
    constructor
    · intro g
      rw [if_pos g] at sf4
      rw [sf4] at s4r ⊢
      rcases teL_lat (kn := F.1 0 6) hkn.1 [a, b, d, e] (1, 0, 0) false rfl (.inr ⟨rfl, rfl⟩) with ⟨h1, h2⟩ | ⟨h1, h2⟩
      · exact .inl ⟨h1, h2⟩
      · exact .inr ⟨by omega, h2⟩
    · intro g
      rw [if_neg g] at sf4
      have := teL_0 (kn := F.1 0 6) [a, b, d, e] (0, 0, 0) (by decide)
      rw [← sf4] at this
      omega
  obtain ⟨r1, r2, r3, r4⟩ := s4r
  have good : ((sf 4).1 = 1 ∧ (sf 4).2.2 ≠ 0) ↔ ¬ (teN F.1 a b d e < 1 ∨ 12 ≤ n0) := by
    constructor
    · rintro ⟨h1, h2⟩
      have := (r4 h1).1
      rcases hlat.1 this with ⟨-, h3⟩ | ⟨h3, -⟩ <;> omega
    · intro z
      have : n0 < 12 := by omega
      rcases hlat.1 this with ⟨h2, h3⟩ | ⟨h2, h3⟩
      · exact ⟨h2, by omega⟩
      · omega
  rw [hn0] at hP
  rcases hP with ⟨hno, rfl, rfl⟩ | ⟨hyes, rfl, rfl⟩
  · have hbad : ¬ ((sf 4).1 = 1 ∧ (sf 4).2.2 ≠ 0) := fun z => good.mp z hno
    obtain ⟨o, hh, hr, S2, iv, rfl, rfl⟩ : ∃ o hh, px_R 1 200 [.ref m, .int (zI a), .int (zI b), .int (zI d), .int (zI e), .retAddr 0, .retAddr 0, .retAddr 0, .retAddr 0, .retAddr 0] (zh T S c) o hh ∧ ∃ S2, Inv 4 S2 ∧ o = .inl (some (.int (zI (-1)))) ∧ hh = zh T (upS S2 (m + 9) (upz (S2 (m + 9)) 2 (F.2.1.2.2 2 + 1))) c := by
      refine px_ofEx ?_
      generalize hQQ : (fun (o : pm_O) (hh : pm_H) => ∃ S2, Inv 4 S2 ∧ o = .inl (some (.int (zI (-1)))) ∧ hh = zh T (upS S2 (m + 9) (upz (S2 (m + 9)) 2 (F.2.1.2.2 2 + 1))) c) = Q
      refine run Q (fun S2 l9 iv => ?_)
      have fq : Q (.inl (some (.int (zI (-1))))) (zh T (upS S2 (m + 9) (upz (S2 (m + 9)) 2 (F.2.1.2.2 2 + 1))) c) := by
        rw [← hQQ]
        exact ⟨S2, iv, rfl, rfl⟩
      clear hQQ
      have q2' : S2 (m + 9) 2 = F.2.1.2.2 2 := by rw [iv.2.1 _ (by omega) (by omega)]; exact q2
      clear_value Inv
      generalize sf 4 = s at *
      by_cases g1 : s.1 = 0
      · (simp (disch := first | with_reducible assumption | omega | decide | (simp only [ps_low, List.map_cons, List.map_nil, Value.category, List.sum_cons, List.sum_nil]; decide)) only [el_X11_teach_166, el_X11_teach_168, el_X11_teach_171, el_X11_teach_173, el_X11_teach_176, el_X11_teach_177, el_X11_teach_180, el_X11_teach_181, el_X11_teach_182, el_X11_teach_183, el_X11_teach_184, el_X11_teach_185, el_X11_teach_186, el_X11_teach_187, gf_11_9, px_ifp, px_ifn, zh_1, zc_1, zc_2, zc_3, zc_4, zc_5, zc_6, zc_7, zc_8, zc_9, zc_10, zc_11, zc_12, zc_20, zc_21, zc_22, zp_1, zp_2, zp_3, zp_4, zp_5, zp_6, zp_7, zp_8, zp_9, zp_10, zp_11, zp_12, zp_20, zp_21, zp_22, upS_eq, upS_ne, upS_up, upz_eq, upz_ne, upz_up, px_al_aI, px_as_aI, px_as_aZ, px_as_aC, px_ln_aI, Option.toList, List.cons_append, List.nil_append, Int.reduceAdd, Int.reduceSub, Int.reduceMul, ↓reduceIte, Nat.reduceEqDiff, eq_self, Int.reduceEq, Int.reduceLT, Int.reduceLE, Int.reduceNe, Int.reduceNeg, Int.reduceToNat, ne_eq, not_true_eq_false, not_false_eq_true, t0, t1, t2, t3, t4, t5, t6, t7, t8, t9, t10, t11, t12, t13, t14, t15, t16, t17, t18, t19, t20, t21, t22, t23, t24, t25, t26, t27, t28, t29, t30, t31, t32, t33, t34, t35, g1, q2']; repeat (first | simp (disch := first | omega | decide) only [upz_srt, upy_upz, upz_up, upS_srt, upT_upS, upS_up] | simp (disch := first | with_reducible assumption | omega | decide | (simp only [ps_low, List.map_cons, List.map_nil, Value.category, List.sum_cons, List.sum_nil]; decide)) only [el_X11_teach_166, el_X11_teach_168, el_X11_teach_171, el_X11_teach_173, el_X11_teach_176, el_X11_teach_177, el_X11_teach_180, el_X11_teach_181, el_X11_teach_182, el_X11_teach_183, el_X11_teach_184, el_X11_teach_185, el_X11_teach_186, el_X11_teach_187, gf_11_9, px_ifp, px_ifn, zh_1, zc_1, zc_2, zc_3, zc_4, zc_5, zc_6, zc_7, zc_8, zc_9, zc_10, zc_11, zc_12, zc_20, zc_21, zc_22, zp_1, zp_2, zp_3, zp_4, zp_5, zp_6, zp_7, zp_8, zp_9, zp_10, zp_11, zp_12, zp_20, zp_21, zp_22, upS_eq, upS_ne, upS_up, upz_eq, upz_ne, upz_up, px_al_aI, px_as_aI, px_as_aZ, px_as_aC, px_ln_aI, Option.toList, List.cons_append, List.nil_append, Int.reduceAdd, Int.reduceSub, Int.reduceMul, ↓reduceIte, Nat.reduceEqDiff, eq_self, Int.reduceEq, Int.reduceLT, Int.reduceLE, Int.reduceNe, Int.reduceNeg, Int.reduceToNat, ne_eq, not_true_eq_false, not_false_eq_true, t0, t1, t2, t3, t4, t5, t6, t7, t8, t9, t10, t11, t12, t13, t14, t15, t16, t17, t18, t19, t20, t21, t22, t23, t24, t25, t26, t27, t28, t29, t30, t31, t32, t33, t34, t35, g1, q2']))
        exact fq
      · have g1' : s.1 = 1 := by omega
        have g2 : s.2.2 = 0 := Decidable.byContradiction (fun z => hbad ⟨g1', z⟩)
        (simp (disch := first | with_reducible assumption | omega | decide | (simp only [ps_low, List.map_cons, List.map_nil, Value.category, List.sum_cons, List.sum_nil]; decide)) only [el_X11_teach_166, el_X11_teach_168, el_X11_teach_171, el_X11_teach_173, el_X11_teach_176, el_X11_teach_177, el_X11_teach_180, el_X11_teach_181, el_X11_teach_182, el_X11_teach_183, el_X11_teach_184, el_X11_teach_185, el_X11_teach_186, el_X11_teach_187, gf_11_9, px_ifp, px_ifn, zh_1, zc_1, zc_2, zc_3, zc_4, zc_5, zc_6, zc_7, zc_8, zc_9, zc_10, zc_11, zc_12, zc_20, zc_21, zc_22, zp_1, zp_2, zp_3, zp_4, zp_5, zp_6, zp_7, zp_8, zp_9, zp_10, zp_11, zp_12, zp_20, zp_21, zp_22, upS_eq, upS_ne, upS_up, upz_eq, upz_ne, upz_up, px_al_aI, px_as_aI, px_as_aZ, px_as_aC, px_ln_aI, Option.toList, List.cons_append, List.nil_append, Int.reduceAdd, Int.reduceSub, Int.reduceMul, ↓reduceIte, Nat.reduceEqDiff, eq_self, Int.reduceEq, Int.reduceLT, Int.reduceLE, Int.reduceNe, Int.reduceNeg, Int.reduceToNat, ne_eq, not_true_eq_false, not_false_eq_true, t0, t1, t2, t3, t4, t5, t6, t7, t8, t9, t10, t11, t12, t13, t14, t15, t16, t17, t18, t19, t20, t21, t22, t23, t24, t25, t26, t27, t28, t29, t30, t31, t32, t33, t34, t35, g1', g2, q2']; repeat (first | simp (disch := first | omega | decide) only [upz_srt, upy_upz, upz_up, upS_srt, upT_upS, upS_up] | simp (disch := first | with_reducible assumption | omega | decide | (simp only [ps_low, List.map_cons, List.map_nil, Value.category, List.sum_cons, List.sum_nil]; decide)) only [el_X11_teach_166, el_X11_teach_168, el_X11_teach_171, el_X11_teach_173, el_X11_teach_176, el_X11_teach_177, el_X11_teach_180, el_X11_teach_181, el_X11_teach_182, el_X11_teach_183, el_X11_teach_184, el_X11_teach_185, el_X11_teach_186, el_X11_teach_187, gf_11_9, px_ifp, px_ifn, zh_1, zc_1, zc_2, zc_3, zc_4, zc_5, zc_6, zc_7, zc_8, zc_9, zc_10, zc_11, zc_12, zc_20, zc_21, zc_22, zp_1, zp_2, zp_3, zp_4, zp_5, zp_6, zp_7, zp_8, zp_9, zp_10, zp_11, zp_12, zp_20, zp_21, zp_22, upS_eq, upS_ne, upS_up, upz_eq, upz_ne, upz_up, px_al_aI, px_as_aI, px_as_aZ, px_as_aC, px_ln_aI, Option.toList, List.cons_append, List.nil_append, Int.reduceAdd, Int.reduceSub, Int.reduceMul, ↓reduceIte, Nat.reduceEqDiff, eq_self, Int.reduceEq, Int.reduceLT, Int.reduceLE, Int.reduceNe, Int.reduceNeg, Int.reduceToNat, ne_eq, not_true_eq_false, not_false_eq_true, t0, t1, t2, t3, t4, t5, t6, t7, t8, t9, t10, t11, t12, t13, t14, t15, t16, t17, t18, t19, t20, t21, t22, t23, t24, t25, t26, t27, t28, t29, t30, t31, t32, t33, t34, t35, g1', g2, q2']))
        exact fq
    obtain ⟨iv1, iv2, iv3, iv4⟩ := iv
    refine mop_val hr (fun x hx => by rw [upS_ne (by omega)]; exact iv2 x (by omega) (by omega)) ?_ (by rw [upS_ne (by omega), iv1, upz_eq])
    -- the rows that are kept stay
    have hS2 : mR T S2 m F := by
      have e : mX [] [29] m S S2 := ⟨fun j hj _ => by
        have : j ≠ 1 := fun e => by subst e; unfold mJ at hj; omega
        rw [iv1, upz_ne this], fun x j hj hy => by
        simp only [List.mem_singleton] at hy
        have := mLim_in hj
        rw [iv2 _ (by omega) (by omega)]⟩
      obtain ⟨h1, hA, hB, hC, hD, hE, hF, hG⟩ := h
      refine ⟨h1, hA.mx e (by decide) hf.2.1.1.2.2.2.2.2.2.2, hB.mx e (by decide) (by decide), ⟨⟨?_, fun j hj => ?_⟩, ⟨?_, fun r hr' => ⟨?_, fun i hi => ?_⟩⟩, fun j hj => ?_⟩, hD.mx e (by decide) hf.n, hE.mx e (by decide) (by decide) hf.dO hf.2.2.2.2.1, hF.mx e (by decide) (by decide) hf.2.2.2.2.2.1, hG.mx e (by decide) (by decide)⟩
      · rw [iv1, upz_ne (by omega)]
        exact hC.1.1
      · rw [iv2 _ (by omega) (by omega)]
        exact hC.1.2 j hj
      · rw [iv1, upz_ne (by omega)]
        exact hC.2.1.1
      · rw [iv2 _ (by omega) (by omega)]
        exact (hC.2.1.2 r hr').1
      · have := hro.2.1 r hr'
        rw [iv3 _ (by omega)]
        exact (hC.2.1.2 r hr').2 i hi
      · rw [iv2 _ (by omega) (by omega)]
        exact hC.2.2 j hj
    exact hS2.up hf (fun j hj => by rw [upS_ne (by omega)]) (fun x j hj hx => by have := mLim_in hj; rw [upS_ne (by omega)]) (by rw [upS_eq]) (by decide)
  · have hgd := good.mpr hyes
    have hn12' := (r4 hgd.1).1
    have hteN : teN F.1 a b d e = (sf 4).2.2 := by
      rcases hlat.1 hn12' with ⟨-, h3⟩ | ⟨h3, -⟩
      · exact h3
      · omega
    obtain ⟨o, hh, hr, S2, iv, rfl, rfl⟩ : ∃ o hh, px_R 1 200 [.ref m, .int (zI a), .int (zI b), .int (zI d), .int (zI e), .retAddr 0, .retAddr 0, .retAddr 0, .retAddr 0, .retAddr 0] (zh T S c) o hh ∧ ∃ S2, Inv 4 S2 ∧ o = .inl (some (.int (zI ((n0 : Int) + 1)))) ∧ hh = zh T (upS (upS S2 m (upz (S2 m) 58 ((n0 : Int) + 1))) (m + 30) (upz (S2 (m + 30)) n0 (sf 4).2.2)) c := by
      refine px_ofEx ?_
      generalize hQQ : (fun (o : pm_O) (hh : pm_H) => ∃ S2, Inv 4 S2 ∧ o = .inl (some (.int (zI ((n0 : Int) + 1)))) ∧ hh = zh T (upS (upS S2 m (upz (S2 m) 58 ((n0 : Int) + 1))) (m + 30) (upz (S2 (m + 30)) n0 (sf 4).2.2)) c) = Q
      refine run Q (fun S2 l9 iv => ?_)
      have fq : Q (.inl (some (.int (zI ((n0 : Int) + 1))))) (zh T (upS (upS S2 m (upz (S2 m) 58 ((n0 : Int) + 1))) (m + 30) (upz (S2 (m + 30)) n0 (sf 4).2.2)) c) := by
        rw [← hQQ]
        exact ⟨S2, iv, rfl, rfl⟩
      clear hQQ
      have e58 : S2 m 58 = (n0 : Nat) := by rw [iv.1, upz_ne (by omega)]; exact n58
      clear_value Inv
      obtain ⟨g1, g2⟩ := hgd
      generalize sf 4 = s at *
      (simp (disch := first | with_reducible assumption | omega | decide | (simp only [ps_low, List.map_cons, List.map_nil, Value.category, List.sum_cons, List.sum_nil]; decide)) only [el_X11_teach_166, el_X11_teach_168, el_X11_teach_171, el_X11_teach_173, el_X11_teach_176, el_X11_teach_177, el_X11_teach_180, el_X11_teach_181, el_X11_teach_182, el_X11_teach_183, el_X11_teach_184, el_X11_teach_185, el_X11_teach_186, el_X11_teach_187, el_X11_teach_188, el_X11_teach_189, el_X11_teach_192, el_X11_teach_193, el_X11_teach_196, el_X11_teach_198, el_X11_teach_199, el_X11_teach_200, el_X11_teach_200i, el_X11_teach_201, el_X11_teach_204, el_X11_teach_205, el_X11_teach_206, el_X11_teach_209, el_X11_teach_210, el_X11_teach_213, gf_11_56, gf_11_58, gf_11_9, pf_11_58, px_ifp, px_ifn, zh_1, zc_1, zc_2, zc_3, zc_4, zc_5, zc_6, zc_7, zc_8, zc_9, zc_10, zc_11, zc_12, zc_20, zc_21, zc_22, zp_1, zp_2, zp_3, zp_4, zp_5, zp_6, zp_7, zp_8, zp_9, zp_10, zp_11, zp_12, zp_20, zp_21, zp_22, upS_eq, upS_ne, upS_up, upz_eq, upz_ne, upz_up, px_al_aI, px_as_aI, px_as_aZ, px_as_aC, px_ln_aI, Option.toList, List.cons_append, List.nil_append, Int.reduceAdd, Int.reduceSub, Int.reduceMul, ↓reduceIte, Nat.reduceEqDiff, eq_self, Int.reduceEq, Int.reduceLT, Int.reduceLE, Int.reduceNe, Int.reduceNeg, Int.reduceToNat, ne_eq, not_true_eq_false, not_false_eq_true, t0, t1, t2, t3, t4, t5, t6, t7, t8, t9, t10, t11, t12, t13, t14, t15, t16, t17, t18, t19, t20, t21, t22, t23, t24, t25, t26, t27, t28, t29, t30, t31, t32, t33, t34, t35, g1, e58, Int.toNat_natCast]; repeat (first | simp (disch := first | omega | decide) only [upz_srt, upy_upz, upz_up, upS_srt, upT_upS, upS_up] | simp (disch := first | with_reducible assumption | omega | decide | (simp only [ps_low, List.map_cons, List.map_nil, Value.category, List.sum_cons, List.sum_nil]; decide)) only [el_X11_teach_166, el_X11_teach_168, el_X11_teach_171, el_X11_teach_173, el_X11_teach_176, el_X11_teach_177, el_X11_teach_180, el_X11_teach_181, el_X11_teach_182, el_X11_teach_183, el_X11_teach_184, el_X11_teach_185, el_X11_teach_186, el_X11_teach_187, el_X11_teach_188, el_X11_teach_189, el_X11_teach_192, el_X11_teach_193, el_X11_teach_196, el_X11_teach_198, el_X11_teach_199, el_X11_teach_200, el_X11_teach_200i, el_X11_teach_201, el_X11_teach_204, el_X11_teach_205, el_X11_teach_206, el_X11_teach_209, el_X11_teach_210, el_X11_teach_213, gf_11_56, gf_11_58, gf_11_9, pf_11_58, px_ifp, px_ifn, zh_1, zc_1, zc_2, zc_3, zc_4, zc_5, zc_6, zc_7, zc_8, zc_9, zc_10, zc_11, zc_12, zc_20, zc_21, zc_22, zp_1, zp_2, zp_3, zp_4, zp_5, zp_6, zp_7, zp_8, zp_9, zp_10, zp_11, zp_12, zp_20, zp_21, zp_22, upS_eq, upS_ne, upS_up, upz_eq, upz_ne, upz_up, px_al_aI, px_as_aI, px_as_aZ, px_as_aC, px_ln_aI, Option.toList, List.cons_append, List.nil_append, Int.reduceAdd, Int.reduceSub, Int.reduceMul, ↓reduceIte, Nat.reduceEqDiff, eq_self, Int.reduceEq, Int.reduceLT, Int.reduceLE, Int.reduceNe, Int.reduceNeg, Int.reduceToNat, ne_eq, not_true_eq_false, not_false_eq_true, t0, t1, t2, t3, t4, t5, t6, t7, t8, t9, t10, t11, t12, t13, t14, t15, t16, t17, t18, t19, t20, t21, t22, t23, t24, t25, t26, t27, t28, t29, t30, t31, t32, t33, t34, t35, g1, e58, Int.toNat_natCast]))
      exact fq
    obtain ⟨iv1, iv2, iv3, iv4⟩ := iv
    have iv4 := iv4 hgd.1
    have eX : mX [58] [29, 30] m S (upS (upS S2 m (upz (S2 m) 58 ((n0 : Int) + 1))) (m + 30) (upz (S2 (m + 30)) n0 (sf 4).2.2)) := by
      refine ⟨fun j hj hx => ?_, fun x j hj hy => ?_⟩
      · simp only [List.mem_singleton] at hx
        have : j ≠ 1 := fun e5 => by subst e5; unfold mJ at hj; omega
        rw [upS_ne (by omega), upS_eq, upz_ne hx, iv1, upz_ne this]
      · simp only [List.mem_cons, List.not_mem_nil, or_false, not_or] at hy
        have := mLim_in hj
        rw [upS_ne (by omega), upS_ne (by omega), iv2 _ (by omega) (by omega)]
    have ev : ((n0 + 1 : Nat) : Int) = (n0 : Int) + 1 := by omega
    rw [ev]
    refine mop_val hr (fun x hx => by rw [upS_ne (by omega), upS_ne (by omega)]; exact iv2 x (by omega) (by omega)) ?_ (by rw [upS_ne (by omega), upS_eq, upz_ne (by omega), iv1, upz_eq])
    obtain ⟨h1, hA, hB, hC, hD, hE, hF, hG⟩ := h
    refine ⟨h1, hA.mx eX (by decide) hf.2.1.1.2.2.2.2.2.2.2, hB.mx eX (by decide) (by decide), ⟨⟨?_, fun j hj => ?_⟩, ⟨?_, fun r hr' => ⟨?_, fun i hi => ?_⟩⟩, fun j hj => ?_⟩, hD.mx eX (by decide) hf.n, hE.mx eX (by decide) (by decide) hf.dO hf.2.2.2.2.1, hF.mx eX (by decide) (by decide) hf.2.2.2.2.2.1, hG.mx eX (by decide) (by decide)⟩
    · rw [upS_ne (by omega), upS_eq, upz_ne (by omega), iv1, upz_ne (by omega)]
      exact hC.1.1
    · rw [upS_ne (by omega), upS_ne (by omega), iv2 _ (by omega) (by omega)]
      exact hC.1.2 j hj
    · rw [upS_ne (by omega), upS_eq, upz_eq]
      show _ = ((F.2.1.2.1.1 + 1 : Nat) : Int)
      rw [hn0, ev]
    · have hr2 : r < F.2.1.2.1.1 + 1 := hr'
      rw [hn0] at hr2
      rw [upS_eq]
      show upz (S2 (m + 30)) n0 (sf 4).2.2 r = upz F.2.1.2.1.2.1 F.2.1.2.1.1 (teN F.1 a b d e) r
      rw [hn0, hteN]
      by_cases ern : r = n0
      · rw [ern, upz_eq, upz_eq]
      · rw [upz_ne ern, upz_ne ern, iv2 _ (by omega) (by omega)]
        exact (hC.2.1.2 r (by rw [hn0]; omega)).1
    · have hr2 : r < F.2.1.2.1.1 + 1 := hr'
      rw [hn0] at hr2
      replace hi : (i : Int) < upz F.2.1.2.1.2.1 F.2.1.2.1.1 (teN F.1 a b d e) r := hi
      rw [hn0, hteN] at hi
      rw [upS_ne (by omega), upS_ne (by omega)]
      show S2 (m + 29) (4 * r + i) = upz (upz (upz (upz F.2.1.2.1.2.2 (4 * F.2.1.2.1.1) a) (4 * F.2.1.2.1.1 + 1) b) (4 * F.2.1.2.1.1 + 2) d) (4 * F.2.1.2.1.1 + 3) e (4 * r + i)
      rw [hn0]
      by_cases ern : r = n0
      · rw [ern, upz_eq] at hi
        have hi4 : i < 4 := by omega
        rw [ern, iv4 i hi]
        rcases (show i = 0 ∨ i = 1 ∨ i = 2 ∨ i = 3 by omega) with rfl | rfl | rfl | rfl
        · rw [w0, upz_ne (by omega), upz_ne (by omega), upz_ne (by omega), show 4 * n0 + 0 = 4 * n0 by omega, upz_eq]
        · rw [w1, upz_ne (by omega), upz_ne (by omega), upz_eq]
        · rw [w2, upz_ne (by omega), upz_eq]
        · rw [w3, upz_eq]
      · rw [upz_ne ern] at hi
        have hL := hro.2.1 r (by rw [hn0]; omega)
        rw [upz_ne (by omega), upz_ne (by omega), upz_ne (by omega), upz_ne (by omega), iv3 _ (by omega)]
        exact (hC.2.1.2 r (by rw [hn0]; omega)).2 i hi
    · rw [upS_ne (by omega), upS_ne (by omega), iv2 _ (by omega) (by omega)]
      exact hC.2.2 j hj
end MODEL
