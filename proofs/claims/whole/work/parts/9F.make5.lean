/-! CONSTRUCTORS, 5: Search -/
section MAKE
variable {T : Nat → Nat × Nat} {S : Nat → Nat → Int} {c : pm_M × pm_C} {q : Nat}
theorem ly7_eq {T T' : Nat → Nat × Nat} {q : Nat} (h : ly7 T q) (e : ∀ a, q ≤ a → a < q + 9 → T' a = T a) : ly7 T' q := by
  unfold ly7 at h ⊢
  rw [e q (by omega) (by omega), e (q + 1) (by omega) (by omega), e (q + 2) (by omega) (by omega), e (q + 3) (by omega) (by omega), e (q + 4) (by omega) (by omega), e (q + 5) (by omega) (by omega), e (q + 6) (by omega) (by omega), e (q + 7) (by omega) (by omega), e (q + 8) (by omega) (by omega)]
  exact h
theorem ly4_eq {T T' : Nat → Nat × Nat} {q : Nat} (h : ly4 T q) (e : ∀ a, q ≤ a → a < q + 8 → T' a = T a) : ly4 T' q := by
  unfold ly4 at h ⊢
  rw [e q (by omega) (by omega), e (q + 1) (by omega) (by omega), e (q + 2) (by omega) (by omega), e (q + 3) (by omega) (by omega), e (q + 4) (by omega) (by omega), e (q + 5) (by omega) (by omega), e (q + 6) (by omega) (by omega), e (q + 7) (by omega) (by omega)]
  exact h
theorem ly1_eq {T T' : Nat → Nat × Nat} {q : Nat} (h : ly1 T q) (e : T' q = T q) : ly1 T' q := e.trans h
/-- a new array of Sheets -/
theorem n_arr {mi pc nx d kd n a : Nat} {ls st : List Value} {Q : pm_O → pm_H → Prop} (hi : pi_ins mi pc = some (ps_newa kd nx)) (hk : kd = 4 ∨ kd = 5) (hg : c.1.1 = 0) (ha : c.1.2.1 = a) (hn : n ≤ 1000) : px_Ev d mi pc ls (.int (zI (n : Int)) :: st) (zh T S c) Q = px_Ev d mi nx ls (.ref a :: st) (zh (upC T a (50 + kd, n)) (upS S a (fun _ => -1)) (nc c n)) Q := by
  subst ha
  refine px_nx hi ?_
  simp only [ps_newa]
  rw [zI_toInt (by omega), if_pos (show pm_gap (zh T S c) = 0 ∧ 0 ≤ (n : Int) ∧ (n : Int) ≤ 1000 from ⟨hg, by omega, by omega⟩), zI_nat (by omega), Int.toNat_natCast]
  have hz : ps_zero kd = .inr (.inr (.inr (.inr (fun _ => none)))) := by
    unfold ps_zero
    rw [if_neg (by omega), if_neg (by omega)]
  rw [hz]
  have e : (fun j => if j < n ∧ (0 : Int) ≤ -1 then some ((-1 : Int)).toNat else none) = (fun _ => (none : Option Nat)) := by
    funext j
    rw [if_neg (fun z => absurd z.2 (by decide))]
  have := zn_at (T := T) (S := S) (c := c) (t := (50 + kd, n)) (F := fun _ => -1) (e := .inl (kd, n, .inr (.inr (.inr (.inr (fun _ => none)))))) (n := n) (by
    rcases hk with rfl | rfl
    · show some (aR 4 n (fun j => if j < n ∧ (0 : Int) ≤ -1 then some ((-1 : Int)).toNat else none)) = _
      rw [e]
      rfl
    · show some (aR 5 n (fun j => if j < n ∧ (0 : Int) ≤ -1 then some ((-1 : Int)).toNat else none)) = _
      rw [e]
      rfl)
  rw [this]
  rfl
theorem fl_arr {n i x : Nat} {F : Nat → Int} (hi : i < n) : (va_up (fun j => if j < n ∧ 0 ≤ F j then some (F j).toNat else none) i (some x)) = fun j => if j < n ∧ 0 ≤ upz F i (x : Int) j then some (upz F i (x : Int) j).toNat else none := by
  funext j
  unfold va_up
  by_cases e : j = i
  · subst e
    rw [if_pos rfl, upz_eq, if_pos ⟨hi, by omega⟩, Int.toNat_natCast]
  · rw [if_neg e, upz_ne e]
/-- a Sheet is put into an array -/
theorem st_sheet {d i x a n : Nat} {l0 l1 : Value} {st : List Value} {Q : pm_O → pm_H → Prop} (ha : T a = (54, n)) (hx : T x = (8, 0)) (hi : i < n ∧ n ≤ 1000) : px_Ev d 45 99 [l0, l1] (.ref x :: .int (zI (i : Int)) :: .ref a :: st) (zh T S c) Q = px_Ev d 45 100 [l0, l1] st (zh T (upS S a (upz (S a) i (x : Int))) c) Q := by
  refine px_nx ((congrFun pq_X6_init 99).trans rfl) ?_
  have h1 : (zh T S c).1 a = some (.inl (4, n, .inr (.inr (.inr (.inr (fun j => if j < n ∧ 0 ≤ S a j then some (S a j).toNat else none)))))) := by rw [zh_1, ha]; rfl
  have h2 : ∃ fs, (zh T S c).1 x = some (.inr (7, fs)) := ⟨_, by rw [zh_1, hx]; rfl⟩
  obtain ⟨fs, h2⟩ := h2
  simp only [ps_aast, h1, h2]
  rw [if_pos (show True ∧ True ∧ ps_in (zI (i : Int)) n = true from ⟨trivial, trivial, zI_in (by omega)⟩), zI_nat (by omega), Int.toNat_natCast, fl_arr hi.1]
  rw [zp_at (T := T) (S := S) (c := c) (a := a) (F := upz (S a) i (x : Int)) (by rw [ha]; rfl)]
  rfl
/-- all are there -/
theorem zf_arr {kd a n : Nat} (hk : kd = 4 ∨ kd = 5) (h : T a = (50 + kd, n)) (hp : ∀ j, j < n → 0 ≤ S a j) : zh T S c = zh (upC T a (20 + kd, n)) S c := by
  unfold zh
  congr 1
  funext b
  by_cases hb : b = a
  · subst hb
    rw [upC_eq, h]
    have e : (fun j => if j < n ∧ 0 ≤ S b j then some (S b j).toNat else none) = fun j => if j < n then some (S b j).toNat else none := by
      funext j
      by_cases hj : j < n
      · rw [if_pos ⟨hj, hp j hj⟩, if_pos hj]
      · rw [if_neg (fun z => hj z.1), if_neg hj]
    rcases hk with rfl | rfl
    · show some (aR 4 n (fun j => if j < n ∧ 0 ≤ S b j then some (S b j).toNat else none)) = some (aR 4 n (fun j => if j < n then some (S b j).toNat else none))
      rw [e]
    · show some (aR 5 n (fun j => if j < n ∧ 0 ≤ S b j then some (S b j).toNat else none)) = some (aR 5 n (fun j => if j < n then some (S b j).toNat else none))
      rw [e]
  · rw [upC_ne hb]
/-- five Sheets' counts -/
def ncL : Nat → pm_M × pm_C → pm_M × pm_C
  | 0, c => c
  | t + 1, c => ncL t (nc7 (nc c 13))
theorem x6_loop {q : Nat} : ∀ (t i : Nat) (T : Nat → Nat × Nat) (S : Nat → Nat → Int) (c : pm_M × pm_C), i + t = 5 → c.1.1 = 0 → c.1.2.1 = q + 32 + 9 * i → T q = (46, 0) → T (q + 4) = (54, 5) → S q 9 = ((q + 4 : Nat) : Int) → (∀ j, j < i → ly7 T (q + 32 + 9 * j) ∧ S (q + 4) j = ((q + 32 + 9 * j : Nat) : Int)) →
    ∃ T' S', (∀ Q, Q (.inl none) (zh T' S' (ncL t c)) → px_Ev 4 45 82 [.ref q, .int (zI (i : Int))] [] (zh T S c) Q) ∧ (∀ a, (a ≠ q + 4 ∧ a < q + 32 + 9 * i) ∨ q + 77 ≤ a → T' a = T a ∧ S' a = S a) ∧ T' (q + 4) = (54, 5) ∧ ∀ j, j < 5 → ly7 T' (q + 32 + 9 * j) ∧ S' (q + 4) j = ((q + 32 + 9 * j : Nat) : Int) := by
  intro t
  induction t with
  | zero =>
    intro i T S c hi hg hs hT h4 h9 hl
    have e : i = 5 := by omega
    subst e
    refine ⟨T, S, fun Q hQ => ?_, fun a _ => ⟨rfl, rfl⟩, h4, hl⟩
    have ez : ((5 : Nat) : Int) = 5 := rfl
    rw [ez, el_X6_init_82]
    (simp (disch := first | with_reducible assumption | omega | decide | (simp only [zg_h, nc_g, hg]) | (simp (disch := omega) only [upC_ne, upC_eq, hT]) | (simp only [ps_low, List.map_cons, List.map_nil, Value.category, List.sum_cons, List.sum_nil]; decide)) only [el_X6_init_83, el_X6_init_84, el_X6_init_87, el_X6_init_88, el_X6_init_91, el_X6_init_92, el_X6_init_95, el_X6_init_95i, el_X6_init_100, el_X6_init_103, el_X6_init_106, gf_6_9, px_ifp, px_ifn, zh_1, zc_1, zc_2, zc_3, zc_4, zc_5, zc_6, zc_7, zc_8, zc_9, zc_10, zc_11, zc_12, zc_20, zc_21, zc_22, zp_1, zp_2, zp_3, zp_4, zp_5, zp_6, zp_7, zp_8, zp_9, zp_10, zp_11, zp_12, zp_20, zp_21, zp_22, upS_eq, upS_ne, upS_up, upz_eq, upz_ne, upz_up, px_al_aI, px_as_aI, px_as_aZ, px_as_aC, px_ln_aI, Option.toList, List.cons_append, List.nil_append, Int.reduceAdd, Int.reduceSub, Int.reduceMul, ↓reduceIte, Nat.reduceEqDiff, eq_self, Int.reduceEq, Int.reduceLT, Int.reduceLE, Int.reduceNe, Int.reduceNeg, Int.reduceToNat, ne_eq, not_true_eq_false, not_false_eq_true, rgf_6_0, rpf_6_0, rgf_6_1, rpf_6_1, rgf_6_2, rpf_6_2, rgf_6_3, rpf_6_3, rgf_6_4, rpf_6_4, rgf_6_5, rpf_6_5, rgf_6_6, rpf_6_6, rgf_6_7, rpf_6_7, rgf_6_8, rpf_6_8, rgf_6_9, rpf_6_9, rgf_6_10, rpf_6_10, rgf_6_11, rpf_6_11, rgf_6_12, rpf_6_12, rgf_6_13, rpf_6_13, rgf_6_14, rpf_6_14, rgf_6_15, rpf_6_15, rgf_6_16, rpf_6_16, zc_46, zp_46, zs_h, nc_s, zn_20, zn_21, zn_22, upC_eq, upC_ne, hT, hs, Int.reduceToNat, Nat.add_assoc, Nat.reduceAdd]; repeat (first | simp (disch := first | omega | decide) only [upz_srt, upy_upz, upz_up, upS_srt, upT_upS, upS_up] | simp (disch := first | with_reducible assumption | omega | decide | (simp only [zg_h, nc_g, hg]) | (simp (disch := omega) only [upC_ne, upC_eq, hT]) | (simp only [ps_low, List.map_cons, List.map_nil, Value.category, List.sum_cons, List.sum_nil]; decide)) only [el_X6_init_83, el_X6_init_84, el_X6_init_87, el_X6_init_88, el_X6_init_91, el_X6_init_92, el_X6_init_95, el_X6_init_95i, el_X6_init_100, el_X6_init_103, el_X6_init_106, gf_6_9, px_ifp, px_ifn, zh_1, zc_1, zc_2, zc_3, zc_4, zc_5, zc_6, zc_7, zc_8, zc_9, zc_10, zc_11, zc_12, zc_20, zc_21, zc_22, zp_1, zp_2, zp_3, zp_4, zp_5, zp_6, zp_7, zp_8, zp_9, zp_10, zp_11, zp_12, zp_20, zp_21, zp_22, upS_eq, upS_ne, upS_up, upz_eq, upz_ne, upz_up, px_al_aI, px_as_aI, px_as_aZ, px_as_aC, px_ln_aI, Option.toList, List.cons_append, List.nil_append, Int.reduceAdd, Int.reduceSub, Int.reduceMul, ↓reduceIte, Nat.reduceEqDiff, eq_self, Int.reduceEq, Int.reduceLT, Int.reduceLE, Int.reduceNe, Int.reduceNeg, Int.reduceToNat, ne_eq, not_true_eq_false, not_false_eq_true, rgf_6_0, rpf_6_0, rgf_6_1, rpf_6_1, rgf_6_2, rpf_6_2, rgf_6_3, rpf_6_3, rgf_6_4, rpf_6_4, rgf_6_5, rpf_6_5, rgf_6_6, rpf_6_6, rgf_6_7, rpf_6_7, rgf_6_8, rpf_6_8, rgf_6_9, rpf_6_9, rgf_6_10, rpf_6_10, rgf_6_11, rpf_6_11, rgf_6_12, rpf_6_12, rgf_6_13, rpf_6_13, rgf_6_14, rpf_6_14, rgf_6_15, rpf_6_15, rgf_6_16, rpf_6_16, zc_46, zp_46, zs_h, nc_s, zn_20, zn_21, zn_22, upC_eq, upC_ne, hT, hs, Int.reduceToNat, Nat.add_assoc, Nat.reduceAdd]))
    exact hQ
  | succ t ih =>
    intro i T S c hi hg hs hT h4 h9 hl
    obtain ⟨T7, S7, r7, f7, l7, -⟩ := i_X7 (T := upC T (q + 32 + 9 * i) (47, 0)) (S := upS S (q + 32 + 9 * i) df7) (c := nc c 13) (q := q + 32 + 9 * i) upC_eq upS_eq hg (by rw [nc_s, hs])
    have k4 : T7 (q + 4) = (54, 5) := by rw [(f7 _ (by omega)).1, upC_ne (by omega)]; exact h4
    have kS : S7 (q + 4) = S (q + 4) := by rw [(f7 _ (by omega)).2, upS_ne (by omega)]
    obtain ⟨T', S', run, f', g4, gl⟩ := ih (i + 1) T7 (upS S7 (q + 4) (upz (S7 (q + 4)) i ((q + 32 + 9 * i : Nat) : Int))) (nc7 (nc c 13)) (by omega) hg (by rw [nc7_s, nc_s, hs]; omega) (by rw [(f7 _ (by omega)).1, upC_ne (by omega)]; exact hT) k4 (by rw [upS_ne (by omega), (f7 _ (by omega)).2, upS_ne (by omega)]; exact h9) (fun j hj => by
      by_cases e : j = i
      · subst e
        exact ⟨l7, by rw [upS_eq, upz_eq]⟩
      · obtain ⟨a1, a2⟩ := hl j (by omega)
        exact ⟨ly7_eq a1 (fun a h1 h2 => by rw [(f7 _ (by omega)).1, upC_ne (by omega)]), by rw [upS_eq, upz_ne e, kS]; exact a2⟩)
    refine ⟨T', S', fun Q hQ => ?_, fun a ha => ⟨by rw [(f' a (by omega)).1, (f7 a (by omega)).1, upC_ne (by omega)], by rw [(f' a (by omega)).2, upS_ne (by omega), (f7 a (by omega)).2, upS_ne (by omega)]⟩, g4, gl⟩
    have nx := run Q hQ
    rw [el_X6_init_82]
    (simp (disch := first | with_reducible assumption | omega | decide | (simp only [zg_h, nc_g, hg]) | (simp (disch := omega) only [upC_ne, upC_eq, hT]) | (simp only [ps_low, List.map_cons, List.map_nil, Value.category, List.sum_cons, List.sum_nil]; decide)) only [el_X6_init_83, el_X6_init_84, el_X6_init_87, el_X6_init_88, el_X6_init_91, el_X6_init_92, el_X6_init_95, el_X6_init_95i, gf_6_9, px_ifp, px_ifn, zh_1, zc_1, zc_2, zc_3, zc_4, zc_5, zc_6, zc_7, zc_8, zc_9, zc_10, zc_11, zc_12, zc_20, zc_21, zc_22, zp_1, zp_2, zp_3, zp_4, zp_5, zp_6, zp_7, zp_8, zp_9, zp_10, zp_11, zp_12, zp_20, zp_21, zp_22, upS_eq, upS_ne, upS_up, upz_eq, upz_ne, upz_up, px_al_aI, px_as_aI, px_as_aZ, px_as_aC, px_ln_aI, Option.toList, List.cons_append, List.nil_append, Int.reduceAdd, Int.reduceSub, Int.reduceMul, ↓reduceIte, Nat.reduceEqDiff, eq_self, Int.reduceEq, Int.reduceLT, Int.reduceLE, Int.reduceNe, Int.reduceNeg, Int.reduceToNat, ne_eq, not_true_eq_false, not_false_eq_true, rgf_6_0, rpf_6_0, rgf_6_1, rpf_6_1, rgf_6_2, rpf_6_2, rgf_6_3, rpf_6_3, rgf_6_4, rpf_6_4, rgf_6_5, rpf_6_5, rgf_6_6, rpf_6_6, rgf_6_7, rpf_6_7, rgf_6_8, rpf_6_8, rgf_6_9, rpf_6_9, rgf_6_10, rpf_6_10, rgf_6_11, rpf_6_11, rgf_6_12, rpf_6_12, rgf_6_13, rpf_6_13, rgf_6_14, rpf_6_14, rgf_6_15, rpf_6_15, rgf_6_16, rpf_6_16, zc_46, zp_46, zs_h, nc_s, zn_20, zn_21, zn_22, upC_eq, upC_ne, hT, hs, Int.reduceToNat, Nat.add_assoc, Nat.reduceAdd, h9, rz_nat, zn_47]; repeat (first | simp (disch := first | omega | decide) only [upz_srt, upy_upz, upz_up, upS_srt, upT_upS, upS_up] | simp (disch := first | with_reducible assumption | omega | decide | (simp only [zg_h, nc_g, hg]) | (simp (disch := omega) only [upC_ne, upC_eq, hT]) | (simp only [ps_low, List.map_cons, List.map_nil, Value.category, List.sum_cons, List.sum_nil]; decide)) only [el_X6_init_83, el_X6_init_84, el_X6_init_87, el_X6_init_88, el_X6_init_91, el_X6_init_92, el_X6_init_95, el_X6_init_95i, gf_6_9, px_ifp, px_ifn, zh_1, zc_1, zc_2, zc_3, zc_4, zc_5, zc_6, zc_7, zc_8, zc_9, zc_10, zc_11, zc_12, zc_20, zc_21, zc_22, zp_1, zp_2, zp_3, zp_4, zp_5, zp_6, zp_7, zp_8, zp_9, zp_10, zp_11, zp_12, zp_20, zp_21, zp_22, upS_eq, upS_ne, upS_up, upz_eq, upz_ne, upz_up, px_al_aI, px_as_aI, px_as_aZ, px_as_aC, px_ln_aI, Option.toList, List.cons_append, List.nil_append, Int.reduceAdd, Int.reduceSub, Int.reduceMul, ↓reduceIte, Nat.reduceEqDiff, eq_self, Int.reduceEq, Int.reduceLT, Int.reduceLE, Int.reduceNe, Int.reduceNeg, Int.reduceToNat, ne_eq, not_true_eq_false, not_false_eq_true, rgf_6_0, rpf_6_0, rgf_6_1, rpf_6_1, rgf_6_2, rpf_6_2, rgf_6_3, rpf_6_3, rgf_6_4, rpf_6_4, rgf_6_5, rpf_6_5, rgf_6_6, rpf_6_6, rgf_6_7, rpf_6_7, rgf_6_8, rpf_6_8, rgf_6_9, rpf_6_9, rgf_6_10, rpf_6_10, rgf_6_11, rpf_6_11, rgf_6_12, rpf_6_12, rgf_6_13, rpf_6_13, rgf_6_14, rpf_6_14, rgf_6_15, rpf_6_15, rgf_6_16, rpf_6_16, zc_46, zp_46, zs_h, nc_s, zn_20, zn_21, zn_22, upC_eq, upC_ne, hT, hs, Int.reduceToNat, Nat.add_assoc, Nat.reduceAdd, h9, rz_nat, zn_47]))
    rw [show q + (32 + 9 * i) = q + 32 + 9 * i by omega]
    rw [el_X6_init_96 r7 (by decide) (zo_47 upC_eq) rfl]
    change px_Ev _ _ _ _ (.ref (q + 32 + 9 * i) :: .int (zI (i : Int)) :: .ref (q + 4) :: []) (zh T7 S7 (nc7 (nc c 13))) Q
    rw [st_sheet k4 l7.1 (by omega)]
    rw [el_X6_init_100, el_X6_init_103]
    exact nx
end MAKE
