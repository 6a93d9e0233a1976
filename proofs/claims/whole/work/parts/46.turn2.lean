/-! turnOver, 2: what it is in numbers -/
theorem px_R_up {d tm : Nat} {ls : List Value} {h h' : pm_H} {o : pm_O} (k : px_R d tm ls h o h') (j : Nat) : px_R (d + j) tm ls h o h' := by
  obtain ⟨n, hn⟩ := k
  exact ⟨n, px_mono _ _ _ _ _ _ _ _ hn 0 j⟩
theorem crR_at {w : Nat} {mv bk z : Nat → Int} {k : Int} : ∀ (n c : Nat), (n ≤ c → crR w mv bk k z n c = z c) ∧ (c < n → crR w mv bk k z n c = if c % w + 1 < w ∧ ¬ mv c = mv (c + 1) then crV bk k c (c + 1) else z c)
  | 0, c => ⟨fun _ => rfl, fun h => absurd h (Nat.not_lt_zero c)⟩
  | n + 1, c => by
    have ih := crR_at (w := w) (mv := mv) (bk := bk) (z := z) (k := k) n c
    unfold crR
    by_cases hc : c = n
    · subst hc
      refine ⟨fun g => by omega, fun _ => ?_⟩
      by_cases g : c % w + 1 < w ∧ ¬ mv c = mv (c + 1)
      · rw [if_pos g, if_pos g, upz_eq]
      · rw [if_neg g, if_neg g]
        exact ih.1 (Nat.le_refl _)
    · by_cases g : n % w + 1 < w ∧ ¬ mv n = mv (n + 1)
      · rw [if_pos g, upz_ne hc]
        exact ⟨fun h => ih.1 (by omega), fun h => ih.2 (by omega)⟩
      · rw [if_neg g]
        exact ⟨fun h => ih.1 (by omega), fun h => ih.2 (by omega)⟩
theorem crD_at {w n0 : Nat} {mv bk z : Nat → Int} {k : Int} : ∀ (n c : Nat), (n ≤ c → crD w n0 mv bk k z n c = z c) ∧ (c < n → crD w n0 mv bk k z n c = if c + w < n0 ∧ ¬ mv c = mv (c + w) then crV bk k c (c + w) else z c)
  | 0, c => ⟨fun _ => rfl, fun h => absurd h (Nat.not_lt_zero c)⟩
  | n + 1, c => by
    have ih := crD_at (w := w) (n0 := n0) (mv := mv) (bk := bk) (z := z) (k := k) n c
    unfold crD
    by_cases hc : c = n
    · subst hc
      refine ⟨fun g => by omega, fun _ => ?_⟩
      by_cases g : c + w < n0 ∧ ¬ mv c = mv (c + w)
      · rw [if_pos g, if_pos g, upz_eq]
      · rw [if_neg g, if_neg g]
        exact ih.1 (Nat.le_refl _)
    · by_cases g : n + w < n0 ∧ ¬ mv n = mv (n + w)
      · rw [if_pos g, upz_ne hc]
        exact ⟨fun h => ih.1 (by omega), fun h => ih.2 (by omega)⟩
      · rw [if_neg g]
        exact ⟨fun h => ih.1 (by omega), fun h => ih.2 (by omega)⟩
theorem tcS_in {n c : Nat} {mv a b : Nat → Int} (hc : c < n) : (mv c = 0 → tcS n mv a b c = b c) ∧ (mv c = 1 → tcS n mv a b c = a c) := by
  unfold tcS
  constructor
  · intro h
    rw [if_neg (fun g => g.2 h)]
  · intro h
    rw [if_pos ⟨hc, by omega⟩]
theorem f_r {w n : Nat} {M : sM} {sd m : Int} (hI : shI w n M) (hd : 0 ≤ sd ∧ sd ≤ 3) (hf : fOk M sd m) {c : Nat} (hc : c < n) : (0 ≤ fX M sd m c ∧ fX M sd m c < M.1 2) ∧ (0 ≤ fY M sd m c ∧ fY M sd m c < M.1 3) ∧ (0 ≤ fX M sd m c - fA sd m ∧ fX M sd m c - fA sd m < mtG M sd m 2) ∧ (0 ≤ fY M sd m c - fB sd m ∧ fY M sd m c - fB sd m < mtG M sd m 3) := by
  have h1 := (hI.2.1 c hc).1
  have h2 := (hI.2.1 c hc).2.1
  have h3 := ((shI_mt hI hd hf).2.1 c hc).1
  have h4 := ((shI_mt hI hd hf).2.1 c hc).2.1
  obtain ⟨m1, m2⟩ := hf
  refine ⟨?_, ?_, h3, h4⟩
  · rcases f_case (M := M) (m := m) hd c with ⟨e, h | h⟩ | ⟨e, h | h⟩ | ⟨e, h | h⟩ | ⟨e, h | h⟩ <;> subst e <;> simp at m2 ⊢ <;> omega
  · rcases f_case (M := M) (m := m) hd c with ⟨e, h | h⟩ | ⟨e, h | h⟩ | ⟨e, h | h⟩ | ⟨e, h | h⟩ <;> subst e <;> simp at m2 ⊢ <;> omega
theorem mtC1 {w n : Nat} {M : sM} {sd m : Int} {c : Nat} : (mvP M sd m c → (mt w n M sd m).2 1 c = 1 - M.2 1 c) ∧ (¬ mvP M sd m c → (mt w n M sd m).2 1 c = M.2 1 c) := ⟨fun h => if_pos h, fun h => if_neg h⟩
theorem mtC4 {w n : Nat} {M : sM} {sd m : Int} {c : Nat} : (mvP M sd m c → (mt w n M sd m).2 4 c = cnt (M.2 2) (M.2 3) (fX M sd m c) (fY M sd m c) n + (cnt (M.2 2) (M.2 3) (M.2 2 c) (M.2 3 c) n - 1 - M.2 4 c)) ∧ (¬ mvP M sd m c → (mt w n M sd m).2 4 c = M.2 4 c) := ⟨fun h => if_pos h, fun h => if_neg h⟩
theorem mtC5 {w n : Nat} {M : sM} {sd m : Int} {c : Nat} : (c % w + 1 < w ∧ ¬ (mvP M sd m c ↔ mvP M sd m (c + 1)) → (mt w n M sd m).2 5 c = 10 * M.1 4 + (if M.2 1 c + M.2 1 (c + 1) = 0 then 1 else 2)) ∧ (¬ (c % w + 1 < w ∧ ¬ (mvP M sd m c ↔ mvP M sd m (c + 1))) → (mt w n M sd m).2 5 c = M.2 5 c) := ⟨fun h => if_pos h, fun h => if_neg h⟩
theorem mtC6 {w n : Nat} {M : sM} {sd m : Int} {c : Nat} : (c + w < n ∧ ¬ (mvP M sd m c ↔ mvP M sd m (c + w)) → (mt w n M sd m).2 6 c = 10 * M.1 4 + (if M.2 1 c + M.2 1 (c + w) = 0 then 1 else 2)) ∧ (¬ (c + w < n ∧ ¬ (mvP M sd m c ↔ mvP M sd m (c + w))) → (mt w n M sd m).2 6 c = M.2 6 c) := ⟨fun h => if_pos h, fun h => if_neg h⟩
section TURN
variable {S : Nat → Nat → Int} {q w n kk : Nat} {M : sM} {sd m up ff : Int}
theorem tu_M (hR : shR S q n M) (hk : (up = 1 ∧ sd < 2 ∧ kk = 2) ∨ (up = 0 ∧ ¬ sd < 2 ∧ kk = 3)) (hff : (ff = 1 ∧ (sd = 0 ∨ sd = 2)) ∨ (ff = 0 ∧ ¬ (sd = 0 ∨ sd = 2))) {c : Nat} (hc : c < n) :
    (mvP M sd m c ∧ tuM S q n kk ff (fEdge M.1 sd m) c = 1) ∨ (¬ mvP M sd m c ∧ tuM S q n kk ff (fEdge M.1 sd m) c = 0) := by
  have e : S (q + kk) c = fP M.2 sd c := by
    unfold fP
    rcases hk with ⟨-, h, rfl⟩ | ⟨-, h, rfl⟩
    · rw [if_pos h]
      exact hR.2.1 2 c (by decide) (by decide) hc
    · rw [if_neg h]
      exact hR.2.1 3 c (by decide) (by decide) hc
  unfold tuM mvF mvP
  rw [if_pos hc, e]
  by_cases g : fP M.2 sd c < fEdge M.1 sd m ↔ (sd = 0 ∨ sd = 2)
  · left
    refine ⟨g, if_pos ?_⟩
    omega
  · right
    refine ⟨g, if_neg ?_⟩
    omega
theorem tu_XY (hR : shR S q n M) (hk : (up = 1 ∧ sd < 2 ∧ kk = 2) ∨ (up = 0 ∧ ¬ sd < 2 ∧ kk = 3)) (hff : (ff = 1 ∧ (sd = 0 ∨ sd = 2)) ∨ (ff = 0 ∧ ¬ (sd = 0 ∨ sd = 2))) (hd : 0 ≤ sd ∧ sd ≤ 3) {c : Nat} (hc : c < n) :
    tuX S q n kk ff (fEdge M.1 sd m) up c = fX M sd m c ∧ tuY S q n kk ff (fEdge M.1 sd m) up c = fY M sd m c := by
  have e2 := hR.2.1 2 c (by decide) (by decide) hc
  have e3 := hR.2.1 3 c (by decide) (by decide) hc
  have hM := tu_M (m := m) hR hk hff hc
  have hE : fEdge M.1 sd m = if sd = 0 ∨ sd = 2 then m else (if sd < 2 then M.1 2 else M.1 3) - m := rfl
  have hx := tcS_in (mv := tuM S q n kk ff (fEdge M.1 sd m)) (a := fun j => if up = 1 then 2 * fEdge M.1 sd m - 1 - S (q + 2) j else S (q + 2) j) (b := S (q + 2)) hc
  have hy := tcS_in (mv := tuM S q n kk ff (fEdge M.1 sd m)) (a := fun j => if up = 1 then S (q + 3) j else 2 * fEdge M.1 sd m - 1 - S (q + 3) j) (b := S (q + 3)) hc
  unfold tuX tuY
  have fc := f_case (M := M) (m := m) hd c
  rcases hM with ⟨g, e⟩ | ⟨g, e⟩
  · rw [hx.2 e, hy.2 e]
    rw [e2, e3]
    rcases fc with ⟨z, h | h⟩ | ⟨z, h | h⟩ | ⟨z, h | h⟩ | ⟨z, h | h⟩
    all_goals first
      | exact absurd g h.2.1
      | (subst z
         rw [h.2.2.1, h.2.2.2, hE]
         rcases hk with ⟨rfl, k2, -⟩ | ⟨rfl, k2, -⟩
         all_goals first
           | (exfalso; omega)
           | simp)
  · rw [hx.1 e, hy.1 e, e2, e3]
    rcases fc with ⟨z, h | h⟩ | ⟨z, h | h⟩ | ⟨z, h | h⟩ | ⟨z, h | h⟩
    all_goals first
      | exact absurd h.2.1 g
      | exact ⟨h.2.2.1.symm, h.2.2.2.symm⟩
theorem tu_AB (hR : shR S q n M) (hk : (up = 1 ∧ sd < 2 ∧ kk = 2) ∨ (up = 0 ∧ ¬ sd < 2 ∧ kk = 3)) (hff : (ff = 1 ∧ (sd = 0 ∨ sd = 2)) ∨ (ff = 0 ∧ ¬ (sd = 0 ∨ sd = 2))) (hd : 0 ≤ sd ∧ sd ≤ 3) {c : Nat} (hc : c < n) :
    tuA S q n kk ff (fEdge M.1 sd m) up m c = fX M sd m c - fA sd m ∧ tuB S q n kk ff (fEdge M.1 sd m) up m c = fY M sd m c - fB sd m := by
  have e := tu_XY (m := m) hR hk hff hd hc
  unfold tuA tuB fA fB nfS
  constructor
  · by_cases g : up = 1 ∧ ff = 1
    · rw [if_pos g, if_pos hc, e.1, if_pos (show sd = 0 by omega)]
    · rw [if_neg g, e.1, if_neg (show ¬ sd = 0 by omega), Int.sub_zero]
  · by_cases g : up = 0 ∧ ff = 1
    · rw [if_pos g, if_pos hc, e.2, if_pos (show sd = 2 by omega)]
    · rw [if_neg g, e.2, if_neg (show ¬ sd = 2 by omega), Int.sub_zero]
theorem wAt_cnt (hR : shR S q n M) {x y : Int} (hx : 0 ≤ x ∧ x < 8) (hy : 0 ≤ y ∧ y < 8) : wAt (S (q + 7)) x y = cnt (M.2 2) (M.2 3) x y n := by
  unfold wAt
  rw [if_pos ⟨hx, hy⟩]
  have := hR.2.2.2 x.toNat y.toNat (by omega) (by omega)
  rw [show (8 * y + x).toNat = 8 * y.toNat + x.toNat by omega, this, show ((x.toNat : Nat) : Int) = x by omega, show ((y.toNat : Nat) : Int) = y by omega]
theorem tu_R (hR : shR S q n M) (hI : shI w n M) (hk : (up = 1 ∧ sd < 2 ∧ kk = 2) ∨ (up = 0 ∧ ¬ sd < 2 ∧ kk = 3)) (hff : (ff = 1 ∧ (sd = 0 ∨ sd = 2)) ∨ (ff = 0 ∧ ¬ (sd = 0 ∨ sd = 2))) (hd : 0 ≤ sd ∧ sd ≤ 3) (hf : fOk M sd m) :
    (∀ a, (a < q ∨ q + 9 ≤ a) → tuS S q n w kk ff (fEdge M.1 sd m) up m a = S a) ∧ shR (tuS S q n w kk ff (fEdge M.1 sd m) up m) q n (mt w n M sd m) := by
  have hM := fun c hc => tu_M (c := c) (m := m) hR hk hff hc
  have hXY := fun c hc => tu_XY (c := c) (m := m) hR hk hff hd hc
  have hAB := fun c hc => tu_AB (c := c) (m := m) hR hk hff hd hc
  have hr := fun c hc => f_r (c := c) hI hd hf hc
  obtain ⟨⟨⟨w1, w8, hw⟩, ⟨hh1, hh8, hn, n1, n64⟩, ⟨c1, c8⟩, ⟨l1, l8⟩, f0, f14⟩, hc0, -⟩ := id hI
  have hG8 : mtG M sd m 2 ≤ 8 ∧ mtG M sd m 3 ≤ 8 := ⟨(shI_mt hI hd hf).1.2.2.1.2, (shI_mt hI hd hf).1.2.2.2.1.2⟩
  unfold tuS ch9
  refine ⟨fun a ha => by simp (disch := omega) only [upS_ne], fun j hj => ?_, fun k c k1 k6 hc => ?_, fun c c1 c2 => ?_, fun x y hx hy => ?_⟩
  · simp (disch := omega) only [upS_ne, upS_eq]
    have g0 := hR.1 0 (by decide)
    have g1 := hR.1 1 (by decide)
    have g2 := hR.1 2 (by decide)
    have g3 := hR.1 3 (by decide)
    have g4 := hR.1 4 (by decide)
    unfold mt mtG upz
    rcases (show j = 0 ∨ j = 1 ∨ j = 2 ∨ j = 3 ∨ j = 4 by omega) with rfl | rfl | rfl | rfl | rfl <;> rcases hk with ⟨rfl, k2, -⟩ | ⟨rfl, k2, -⟩ <;> simp [k2, *]
  · have b1 := hR.2.1 1 c (by decide) (by decide) hc
    have b4 := hR.2.1 4 c (by decide) (by decide) hc
    rcases (show k = 1 ∨ k = 2 ∨ k = 3 ∨ k = 4 ∨ k = 5 ∨ k = 6 by omega) with rfl | rfl | rfl | rfl | rfl | rfl
    · simp (disch := omega) only [upS_ne, upS_eq]
      have hx := tcS_in (mv := tuM S q n kk ff (fEdge M.1 sd m)) (a := fun j => 1 - S (q + 1) j) (b := S (q + 1)) hc
      rcases hM c hc with ⟨g, e⟩ | ⟨g, e⟩
      · rw [hx.2 e, mtC1.1 g, b1]
      · rw [hx.1 e, mtC1.2 g, b1]
    · simp (disch := omega) only [upS_ne, upS_eq]
      exact (hAB c hc).1
    · simp (disch := omega) only [upS_ne, upS_eq]
      exact (hAB c hc).2
    · simp (disch := omega) only [upS_ne, upS_eq]
      have hx := tcS_in (mv := tuM S q n kk ff (fEdge M.1 sd m)) (a := fun j => wAt (S (q + 7)) (if up = 1 then 2 * fEdge M.1 sd m - 1 - S (q + 2) j else S (q + 2) j) (if up = 1 then S (q + 3) j else 2 * fEdge M.1 sd m - 1 - S (q + 3) j) + (wAt (S (q + 7)) (S (q + 2) j) (S (q + 3) j) - 1 - S (q + 4) j)) (b := S (q + 4)) hc
      have b2 := hR.2.1 2 c (by decide) (by decide) hc
      have b3 := hR.2.1 3 c (by decide) (by decide) hc
      have hX2 := tcS_in (mv := tuM S q n kk ff (fEdge M.1 sd m)) (a := fun j => if up = 1 then 2 * fEdge M.1 sd m - 1 - S (q + 2) j else S (q + 2) j) (b := S (q + 2)) hc
      have hY2 := tcS_in (mv := tuM S q n kk ff (fEdge M.1 sd m)) (a := fun j => if up = 1 then S (q + 3) j else 2 * fEdge M.1 sd m - 1 - S (q + 3) j) (b := S (q + 3)) hc
      unfold tuL
      rcases hM c hc with ⟨g, e⟩ | ⟨g, e⟩
      · rw [hx.2 e, mtC4.1 g]
        have u := hXY c hc
        unfold tuX tuY at u
        rw [hX2.2 e, hY2.2 e] at u
        try dsimp only at u ⊢
        rw [u.1, u.2, b2, b3, b4, wAt_cnt hR (by have := hr c hc; omega) (by have := hr c hc; omega), wAt_cnt hR (by have := hc0 c hc; omega) (by have := hc0 c hc; omega)]
      · rw [hx.1 e, mtC4.2 g, b4]
    · simp (disch := omega) only [upS_ne, upS_eq]
      rw [(crR_at n c).2 hc]
      by_cases hx : c % w + 1 < w
      · have hc1 := next_lt (by omega) (by rw [hn, hw]) hc hx
        have e0 := hR.2.1 1 (c + 1) (by decide) (by decide) hc1
        unfold crV
        rw [hR.1 4 (by decide), b1, e0, hR.2.1 5 c (by decide) (by decide) hc]
        rcases hM c hc with ⟨g, e⟩ | ⟨g, e⟩ <;> rcases hM (c + 1) hc1 with ⟨g', e'⟩ | ⟨g', e'⟩
        · rw [mtC5.2 (by simp [g, g'])]
          simp [hx, e, e']
        · rw [mtC5.1 (by simp [hx, g, g'])]
          simp [hx, e, e']
        · rw [mtC5.1 (by simp [hx, g, g'])]
          simp [hx, e, e']
        · rw [mtC5.2 (by simp [g, g'])]
          simp [hx, e, e']
      · rw [if_neg (fun z => hx z.1), mtC5.2 (fun z => hx z.1)]
        exact hR.2.1 5 c (by decide) (by decide) hc
    · simp (disch := omega) only [upS_ne, upS_eq]
      rw [(crD_at n c).2 hc]
      by_cases hx : c + w < n
      · have e0 := hR.2.1 1 (c + w) (by decide) (by decide) hx
        unfold crV
        rw [hR.1 4 (by decide), b1, e0, hR.2.1 6 c (by decide) (by decide) hc]
        rcases hM c hc with ⟨g, e⟩ | ⟨g, e⟩ <;> rcases hM (c + w) hx with ⟨g', e'⟩ | ⟨g', e'⟩
        · rw [mtC6.2 (by simp [g, g'])]
          simp [hx, e, e']
        · rw [mtC6.1 (by simp [hx, g, g'])]
          simp [hx, e, e']
        · rw [mtC6.1 (by simp [hx, g, g'])]
          simp [hx, e, e']
        · rw [mtC6.2 (by simp [g, g'])]
          simp [hx, e, e']
      · rw [if_neg (fun z => hx z.1), mtC6.2 (fun z => hx z.1)]
        exact hR.2.1 6 c (by decide) (by decide) hc
  · simp (disch := omega) only [upS_ne, upS_eq]
    rw [(crR_at n c).1 c1, (crD_at n c).1 c1]
    exact hR.2.2.1 c c1 c2
  · simp (disch := omega) only [upS_ne, upS_eq]
    rw [wgt_cnt hx hy n (fun c hc => by
      rw [(hAB c hc).1, (hAB c hc).2]
      have := hr c hc
      omega), show zro (S (q + 7)) (8 * y + x) = 0 from if_pos (by omega), Int.zero_add]
    refine cnt_congr n (fun c hc => ?_)
    rw [(hAB c hc).1, (hAB c hc).2]
    exact Iff.rfl
end TURN
theorem s_turnOver {T : Nat → Nat × Nat} {S : Nat → Nat → Int} {c : pm_M × pm_C} {q w n : Nat} {M : sM} {sd m : Int} (hq : ly7 T q) (hR : shR S q n M) (hI : shI w n M) (hd : 0 ≤ sd ∧ sd ≤ 3) (hm : -2147483648 ≤ m ∧ m ≤ 2147483647) :
    ∃ (v : Int) (S' : Nat → Nat → Int), px_R 3 61 [.ref q, .int (zI sd), .int (zI m), .retAddr 0, .retAddr 0, .retAddr 0, .retAddr 0] (zh T S c) (.inl (some (.int (zI v)))) (zh T S' c) ∧ (∀ a, (a < q ∨ q + 9 ≤ a) → S' a = S a) ∧
      ((fOk M sd m ∧ v = 1 ∧ shR S' q n (mt w n M sd m)) ∨ (¬ fOk M sd m ∧ v = 0 ∧ S' = S)) := by
  obtain ⟨t0, t1, t2, t3, t4, t5, t6, t7, t8⟩ := id hq
  obtain ⟨⟨⟨w1, w8, hw⟩, ⟨hh1, hh8, hn, n1, n64⟩, ⟨c1, c8⟩, ⟨l1, l8⟩, f0, f14⟩, hc0, -⟩ := id hI
  have ho := hR.ok hI
  have g0 := hR.1 0 (by decide)
  have g2 := hR.1 2 (by decide)
  have g3 := hR.1 3 (by decide)
  have g4 := hR.1 4 (by decide)
  have hcan := z_canTurn (T := T) (S := S) (c := c) (q := q) (sd := sd) (m := m) hq (by omega) (by omega) hd hm
  rw [g2, g3] at hcan
  by_cases hf : fOk M sd m
  · have hf' := hf
    unfold fOk at hf'
    rw [if_pos hf'] at hcan
    have main : ∀ (up ff : Int) (kk : Nat), ((up = 1 ∧ sd < 2 ∧ kk = 2) ∨ (up = 0 ∧ ¬ sd < 2 ∧ kk = 3)) → ((ff = 1 ∧ (sd = 0 ∨ sd = 2)) ∨ (ff = 0 ∧ ¬ (sd = 0 ∨ sd = 2))) → ∀ ac : Int, (∀ Q : pm_O → pm_H → Prop, px_Ev 3 61 74 [.ref q, .int (zI sd), .int (zI m), .int (zI up), .int (zI ff), .int (zI ac), .int (zI (fEdge M.1 sd m))] [] (zh T S c) Q →
        px_Ev 3 61 0 [.ref q, .int (zI sd), .int (zI m), .retAddr 0, .retAddr 0, .retAddr 0, .retAddr 0] [] (zh T S c) Q) → ∃ (v : Int) (S' : Nat → Nat → Int), px_R 3 61 [.ref q, .int (zI sd), .int (zI m), .retAddr 0, .retAddr 0, .retAddr 0, .retAddr 0] (zh T S c) (.inl (some (.int (zI v)))) (zh T S' c) ∧ (∀ a, (a < q ∨ q + 9 ≤ a) → S' a = S a) ∧
      ((fOk M sd m ∧ v = 1 ∧ shR S' q n (mt w n M sd m)) ∨ (¬ fOk M sd m ∧ v = 0 ∧ S' = S)) := by
      intro up ff kk hk hff ac run
      have hU := tu_R hR hI hk hff hd hf
      have hr := fun c hc => f_r (c := c) hI hd hf hc
      have hAB := fun c hc => tu_AB (c := c) (m := m) hR hk hff hd hc
      refine ⟨1, tuS S q n w kk ff (fEdge M.1 sd m) up m, px_ofQ fun Q hQ => run Q ?_, hU.1, .inl ⟨hf, rfl, hU.2⟩⟩
      have ho' := hU.2.ok (shI_mt hI hd hf)
      have hE : 0 ≤ fEdge M.1 sd m ∧ fEdge M.1 sd m ≤ 8 := by
        unfold fEdge
        split
        · by_cases h : sd < 2
          · rw [if_pos h] at hf'
            omega
          · rw [if_neg h] at hf'
            omega
        · by_cases h : sd < 2
          · rw [if_pos h] at hf' ⊢
            omega
          · rw [if_neg h] at hf' ⊢
            omega
      have hm8 : 0 ≤ m ∧ m ≤ 8 := by
        by_cases h : sd < 2
        · rw [if_pos h] at hf'
          omega
        · rw [if_neg h] at hf'
          omega
      refine turn_tail hq ho (by omega) (by omega) (by omega) (by omega) hE hm8 (fun c hc => by rw [hR.2.1 1 c (by decide) (by decide) hc]; have := hc0 c hc; omega) (fun c hc => by rw [hR.2.1 2 c (by decide) (by decide) hc, hR.2.1 3 c (by decide) (by decide) hc]; have := hc0 c hc; omega) ?_ (fun c hc => ?_) hQ
      · unfold tuS ch9 at ho'
        simp (disch := omega) only [upS_ne, upS_eq] at ho'
        exact ho'
      · rw [(hAB c hc).1, (hAB c hc).2, g2, g3]
        have h1 := (hr c hc).2.2
        have e2 : mtG M sd m 2 = if sd < 2 then M.1 2 - m else M.1 2 := rfl
        have e3 : mtG M sd m 3 = if sd < 2 then M.1 3 else M.1 3 - m := rfl
        rw [e2, e3] at h1
        rcases hk with ⟨rfl, k2, -⟩ | ⟨rfl, k2, -⟩
        · rw [if_pos k2, if_pos k2] at h1
          rw [if_pos rfl, if_pos rfl]
          omega
        · rw [if_neg k2, if_neg k2] at h1
          rw [if_neg (by decide), if_neg (by decide)]
          omega
    have hE : fEdge M.1 sd m = if sd = 0 ∨ sd = 2 then m else (if sd < 2 then M.1 2 else M.1 3) - m := rfl
    rcases (show sd = 0 ∨ sd = 1 ∨ sd = 2 ∨ sd = 3 by omega) with rfl | rfl | rfl | rfl
    · refine main 1 1 2 (by omega) (by omega) (M.1 2) (fun Q hQ => ?_)
      rw [hE] at hQ
      simp only [or_false, false_or, or_true, true_or, ↓reduceIte, Nat.reduceEqDiff, eq_self, Int.reduceEq, Int.reduceLT, Int.reduceLE, Int.reduceNe, Int.reduceNeg, Int.reduceToNat, ne_eq, not_true_eq_false, not_false_eq_true] at hQ
      (simp (disch := first | with_reducible assumption | omega | decide | (simp only [ps_low, List.map_cons, List.map_nil, Value.category, List.sum_cons, List.sum_nil]; decide)) only [el_X7_turnOver_0, el_X7_turnOver_1, el_X7_turnOver_2, el_X7_turnOver_6, el_X7_turnOver_9, el_X7_turnOver_10, el_X7_turnOver_11, el_X7_turnOver_12, el_X7_turnOver_15, el_X7_turnOver_16, el_X7_turnOver_17, el_X7_turnOver_20, el_X7_turnOver_21, el_X7_turnOver_24, el_X7_turnOver_25, el_X7_turnOver_26, el_X7_turnOver_27, el_X7_turnOver_30, el_X7_turnOver_31, el_X7_turnOver_32, el_X7_turnOver_35, el_X7_turnOver_36, el_X7_turnOver_39, el_X7_turnOver_40, el_X7_turnOver_42, el_X7_turnOver_43, el_X7_turnOver_46, el_X7_turnOver_47, el_X7_turnOver_50, el_X7_turnOver_53, el_X7_turnOver_54, el_X7_turnOver_57, el_X7_turnOver_59, el_X7_turnOver_61, el_X7_turnOver_64, el_X7_turnOver_65, el_X7_turnOver_68, el_X7_turnOver_70, el_X7_turnOver_71, el_X7_turnOver_72, gf_7_2, gf_7_3, px_ifp, px_ifn, zh_1, zc_1, zc_2, zc_3, zc_4, zc_5, zc_6, zc_7, zc_8, zc_9, zc_10, zc_11, zc_12, zc_20, zc_21, zc_22, zp_1, zp_2, zp_3, zp_4, zp_5, zp_6, zp_7, zp_8, zp_9, zp_10, zp_11, zp_12, zp_20, zp_21, zp_22, upS_eq, upS_ne, upS_up, upz_eq, upz_ne, upz_up, px_al_aI, px_as_aI, px_as_aZ, px_as_aC, px_ln_aI, Option.toList, List.cons_append, List.nil_append, Int.reduceAdd, Int.reduceSub, Int.reduceMul, ↓reduceIte, Nat.reduceEqDiff, eq_self, Int.reduceEq, Int.reduceLT, Int.reduceLE, Int.reduceNe, Int.reduceNeg, Int.reduceToNat, ne_eq, not_true_eq_false, not_false_eq_true, t0, t1, t2, t3, t4, t5, t6, t7, t8, el_X7_turnOver_3 (hcan ..) _ (zo_8 _) _, g2, g3]; repeat (first | simp (disch := first | omega | decide) only [upz_srt, upy_upz, upz_up, upS_srt, upT_upS, upS_up] | simp (disch := first | with_reducible assumption | omega | decide | (simp only [ps_low, List.map_cons, List.map_nil, Value.category, List.sum_cons, List.sum_nil]; decide)) only [el_X7_turnOver_0, el_X7_turnOver_1, el_X7_turnOver_2, el_X7_turnOver_6, el_X7_turnOver_9, el_X7_turnOver_10, el_X7_turnOver_11, el_X7_turnOver_12, el_X7_turnOver_15, el_X7_turnOver_16, el_X7_turnOver_17, el_X7_turnOver_20, el_X7_turnOver_21, el_X7_turnOver_24, el_X7_turnOver_25, el_X7_turnOver_26, el_X7_turnOver_27, el_X7_turnOver_30, el_X7_turnOver_31, el_X7_turnOver_32, el_X7_turnOver_35, el_X7_turnOver_36, el_X7_turnOver_39, el_X7_turnOver_40, el_X7_turnOver_42, el_X7_turnOver_43, el_X7_turnOver_46, el_X7_turnOver_47, el_X7_turnOver_50, el_X7_turnOver_53, el_X7_turnOver_54, el_X7_turnOver_57, el_X7_turnOver_59, el_X7_turnOver_61, el_X7_turnOver_64, el_X7_turnOver_65, el_X7_turnOver_68, el_X7_turnOver_70, el_X7_turnOver_71, el_X7_turnOver_72, gf_7_2, gf_7_3, px_ifp, px_ifn, zh_1, zc_1, zc_2, zc_3, zc_4, zc_5, zc_6, zc_7, zc_8, zc_9, zc_10, zc_11, zc_12, zc_20, zc_21, zc_22, zp_1, zp_2, zp_3, zp_4, zp_5, zp_6, zp_7, zp_8, zp_9, zp_10, zp_11, zp_12, zp_20, zp_21, zp_22, upS_eq, upS_ne, upS_up, upz_eq, upz_ne, upz_up, px_al_aI, px_as_aI, px_as_aZ, px_as_aC, px_ln_aI, Option.toList, List.cons_append, List.nil_append, Int.reduceAdd, Int.reduceSub, Int.reduceMul, ↓reduceIte, Nat.reduceEqDiff, eq_self, Int.reduceEq, Int.reduceLT, Int.reduceLE, Int.reduceNe, Int.reduceNeg, Int.reduceToNat, ne_eq, not_true_eq_false, not_false_eq_true, t0, t1, t2, t3, t4, t5, t6, t7, t8, el_X7_turnOver_3 (hcan ..) _ (zo_8 _) _, g2, g3]))
      exact hQ
    · refine main 1 0 2 (by omega) (by omega) (M.1 2) (fun Q hQ => ?_)
      rw [hE] at hQ
      simp only [or_false, false_or, or_true, true_or, ↓reduceIte, Nat.reduceEqDiff, eq_self, Int.reduceEq, Int.reduceLT, Int.reduceLE, Int.reduceNe, Int.reduceNeg, Int.reduceToNat, ne_eq, not_true_eq_false, not_false_eq_true] at hQ
      (simp (disch := first | with_reducible assumption | omega | decide | (simp only [ps_low, List.map_cons, List.map_nil, Value.category, List.sum_cons, List.sum_nil]; decide)) only [el_X7_turnOver_0, el_X7_turnOver_1, el_X7_turnOver_2, el_X7_turnOver_6, el_X7_turnOver_9, el_X7_turnOver_10, el_X7_turnOver_11, el_X7_turnOver_12, el_X7_turnOver_15, el_X7_turnOver_16, el_X7_turnOver_17, el_X7_turnOver_20, el_X7_turnOver_21, el_X7_turnOver_24, el_X7_turnOver_25, el_X7_turnOver_26, el_X7_turnOver_27, el_X7_turnOver_30, el_X7_turnOver_31, el_X7_turnOver_32, el_X7_turnOver_35, el_X7_turnOver_36, el_X7_turnOver_39, el_X7_turnOver_40, el_X7_turnOver_42, el_X7_turnOver_43, el_X7_turnOver_46, el_X7_turnOver_47, el_X7_turnOver_50, el_X7_turnOver_53, el_X7_turnOver_54, el_X7_turnOver_57, el_X7_turnOver_59, el_X7_turnOver_61, el_X7_turnOver_64, el_X7_turnOver_65, el_X7_turnOver_68, el_X7_turnOver_70, el_X7_turnOver_71, el_X7_turnOver_72, gf_7_2, gf_7_3, px_ifp, px_ifn, zh_1, zc_1, zc_2, zc_3, zc_4, zc_5, zc_6, zc_7, zc_8, zc_9, zc_10, zc_11, zc_12, zc_20, zc_21, zc_22, zp_1, zp_2, zp_3, zp_4, zp_5, zp_6, zp_7, zp_8, zp_9, zp_10, zp_11, zp_12, zp_20, zp_21, zp_22, upS_eq, upS_ne, upS_up, upz_eq, upz_ne, upz_up, px_al_aI, px_as_aI, px_as_aZ, px_as_aC, px_ln_aI, Option.toList, List.cons_append, List.nil_append, Int.reduceAdd, Int.reduceSub, Int.reduceMul, ↓reduceIte, Nat.reduceEqDiff, eq_self, Int.reduceEq, Int.reduceLT, Int.reduceLE, Int.reduceNe, Int.reduceNeg, Int.reduceToNat, ne_eq, not_true_eq_false, not_false_eq_true, t0, t1, t2, t3, t4, t5, t6, t7, t8, el_X7_turnOver_3 (hcan ..) _ (zo_8 _) _, g2, g3]; repeat (first | simp (disch := first | omega | decide) only [upz_srt, upy_upz, upz_up, upS_srt, upT_upS, upS_up] | simp (disch := first | with_reducible assumption | omega | decide | (simp only [ps_low, List.map_cons, List.map_nil, Value.category, List.sum_cons, List.sum_nil]; decide)) only [el_X7_turnOver_0, el_X7_turnOver_1, el_X7_turnOver_2, el_X7_turnOver_6, el_X7_turnOver_9, el_X7_turnOver_10, el_X7_turnOver_11, el_X7_turnOver_12, el_X7_turnOver_15, el_X7_turnOver_16, el_X7_turnOver_17, el_X7_turnOver_20, el_X7_turnOver_21, el_X7_turnOver_24, el_X7_turnOver_25, el_X7_turnOver_26, el_X7_turnOver_27, el_X7_turnOver_30, el_X7_turnOver_31, el_X7_turnOver_32, el_X7_turnOver_35, el_X7_turnOver_36, el_X7_turnOver_39, el_X7_turnOver_40, el_X7_turnOver_42, el_X7_turnOver_43, el_X7_turnOver_46, el_X7_turnOver_47, el_X7_turnOver_50, el_X7_turnOver_53, el_X7_turnOver_54, el_X7_turnOver_57, el_X7_turnOver_59, el_X7_turnOver_61, el_X7_turnOver_64, el_X7_turnOver_65, el_X7_turnOver_68, el_X7_turnOver_70, el_X7_turnOver_71, el_X7_turnOver_72, gf_7_2, gf_7_3, px_ifp, px_ifn, zh_1, zc_1, zc_2, zc_3, zc_4, zc_5, zc_6, zc_7, zc_8, zc_9, zc_10, zc_11, zc_12, zc_20, zc_21, zc_22, zp_1, zp_2, zp_3, zp_4, zp_5, zp_6, zp_7, zp_8, zp_9, zp_10, zp_11, zp_12, zp_20, zp_21, zp_22, upS_eq, upS_ne, upS_up, upz_eq, upz_ne, upz_up, px_al_aI, px_as_aI, px_as_aZ, px_as_aC, px_ln_aI, Option.toList, List.cons_append, List.nil_append, Int.reduceAdd, Int.reduceSub, Int.reduceMul, ↓reduceIte, Nat.reduceEqDiff, eq_self, Int.reduceEq, Int.reduceLT, Int.reduceLE, Int.reduceNe, Int.reduceNeg, Int.reduceToNat, ne_eq, not_true_eq_false, not_false_eq_true, t0, t1, t2, t3, t4, t5, t6, t7, t8, el_X7_turnOver_3 (hcan ..) _ (zo_8 _) _, g2, g3]))
      exact hQ
    · refine main 0 1 3 (by omega) (by omega) (M.1 3) (fun Q hQ => ?_)
      rw [hE] at hQ
      simp only [or_false, false_or, or_true, true_or, ↓reduceIte, Nat.reduceEqDiff, eq_self, Int.reduceEq, Int.reduceLT, Int.reduceLE, Int.reduceNe, Int.reduceNeg, Int.reduceToNat, ne_eq, not_true_eq_false, not_false_eq_true] at hQ
      (simp (disch := first | with_reducible assumption | omega | decide | (simp only [ps_low, List.map_cons, List.map_nil, Value.category, List.sum_cons, List.sum_nil]; decide)) only [el_X7_turnOver_0, el_X7_turnOver_1, el_X7_turnOver_2, el_X7_turnOver_6, el_X7_turnOver_9, el_X7_turnOver_10, el_X7_turnOver_11, el_X7_turnOver_12, el_X7_turnOver_15, el_X7_turnOver_16, el_X7_turnOver_17, el_X7_turnOver_20, el_X7_turnOver_21, el_X7_turnOver_24, el_X7_turnOver_25, el_X7_turnOver_26, el_X7_turnOver_27, el_X7_turnOver_30, el_X7_turnOver_31, el_X7_turnOver_32, el_X7_turnOver_35, el_X7_turnOver_36, el_X7_turnOver_39, el_X7_turnOver_40, el_X7_turnOver_42, el_X7_turnOver_43, el_X7_turnOver_46, el_X7_turnOver_47, el_X7_turnOver_50, el_X7_turnOver_53, el_X7_turnOver_54, el_X7_turnOver_57, el_X7_turnOver_59, el_X7_turnOver_61, el_X7_turnOver_64, el_X7_turnOver_65, el_X7_turnOver_68, el_X7_turnOver_70, el_X7_turnOver_71, el_X7_turnOver_72, gf_7_2, gf_7_3, px_ifp, px_ifn, zh_1, zc_1, zc_2, zc_3, zc_4, zc_5, zc_6, zc_7, zc_8, zc_9, zc_10, zc_11, zc_12, zc_20, zc_21, zc_22, zp_1, zp_2, zp_3, zp_4, zp_5, zp_6, zp_7, zp_8, zp_9, zp_10, zp_11, zp_12, zp_20, zp_21, zp_22, upS_eq, upS_ne, upS_up, upz_eq, upz_ne, upz_up, px_al_aI, px_as_aI, px_as_aZ, px_as_aC, px_ln_aI, Option.toList, List.cons_append, List.nil_append, Int.reduceAdd, Int.reduceSub, Int.reduceMul, ↓reduceIte, Nat.reduceEqDiff, eq_self, Int.reduceEq, Int.reduceLT, Int.reduceLE, Int.reduceNe, Int.reduceNeg, Int.reduceToNat, ne_eq, not_true_eq_false, not_false_eq_true, t0, t1, t2, t3, t4, t5, t6, t7, t8, el_X7_turnOver_3 (hcan ..) _ (zo_8 _) _, g2, g3]; repeat (first | simp (disch := first | omega | decide) only [upz_srt, upy_upz, upz_up, upS_srt, upT_upS, upS_up] | simp (disch := first | with_reducible assumption | omega | decide | (simp only [ps_low, List.map_cons, List.map_nil, Value.category, List.sum_cons, List.sum_nil]; decide)) only [el_X7_turnOver_0, el_X7_turnOver_1, el_X7_turnOver_2, el_X7_turnOver_6, el_X7_turnOver_9, el_X7_turnOver_10, el_X7_turnOver_11, el_X7_turnOver_12, el_X7_turnOver_15, el_X7_turnOver_16, el_X7_turnOver_17, el_X7_turnOver_20, el_X7_turnOver_21, el_X7_turnOver_24, el_X7_turnOver_25, el_X7_turnOver_26, el_X7_turnOver_27, el_X7_turnOver_30, el_X7_turnOver_31, el_X7_turnOver_32, el_X7_turnOver_35, el_X7_turnOver_36, el_X7_turnOver_39, el_X7_turnOver_40, el_X7_turnOver_42, el_X7_turnOver_43, el_X7_turnOver_46, el_X7_turnOver_47, el_X7_turnOver_50, el_X7_turnOver_53, el_X7_turnOver_54, el_X7_turnOver_57, el_X7_turnOver_59, el_X7_turnOver_61, el_X7_turnOver_64, el_X7_turnOver_65, el_X7_turnOver_68, el_X7_turnOver_70, el_X7_turnOver_71, el_X7_turnOver_72, gf_7_2, gf_7_3, px_ifp, px_ifn, zh_1, zc_1, zc_2, zc_3, zc_4, zc_5, zc_6, zc_7, zc_8, zc_9, zc_10, zc_11, zc_12, zc_20, zc_21, zc_22, zp_1, zp_2, zp_3, zp_4, zp_5, zp_6, zp_7, zp_8, zp_9, zp_10, zp_11, zp_12, zp_20, zp_21, zp_22, upS_eq, upS_ne, upS_up, upz_eq, upz_ne, upz_up, px_al_aI, px_as_aI, px_as_aZ, px_as_aC, px_ln_aI, Option.toList, List.cons_append, List.nil_append, Int.reduceAdd, Int.reduceSub, Int.reduceMul, ↓reduceIte, Nat.reduceEqDiff, eq_self, Int.reduceEq, Int.reduceLT, Int.reduceLE, Int.reduceNe, Int.reduceNeg, Int.reduceToNat, ne_eq, not_true_eq_false, not_false_eq_true, t0, t1, t2, t3, t4, t5, t6, t7, t8, el_X7_turnOver_3 (hcan ..) _ (zo_8 _) _, g2, g3]))
      exact hQ
    · refine main 0 0 3 (by omega) (by omega) (M.1 3) (fun Q hQ => ?_)
      rw [hE] at hQ
      simp only [or_false, false_or, or_true, true_or, ↓reduceIte, Nat.reduceEqDiff, eq_self, Int.reduceEq, Int.reduceLT, Int.reduceLE, Int.reduceNe, Int.reduceNeg, Int.reduceToNat, ne_eq, not_true_eq_false, not_false_eq_true] at hQ
      (simp (disch := first | with_reducible assumption | omega | decide | (simp only [ps_low, List.map_cons, List.map_nil, Value.category, List.sum_cons, List.sum_nil]; decide)) only [el_X7_turnOver_0, el_X7_turnOver_1, el_X7_turnOver_2, el_X7_turnOver_6, el_X7_turnOver_9, el_X7_turnOver_10, el_X7_turnOver_11, el_X7_turnOver_12, el_X7_turnOver_15, el_X7_turnOver_16, el_X7_turnOver_17, el_X7_turnOver_20, el_X7_turnOver_21, el_X7_turnOver_24, el_X7_turnOver_25, el_X7_turnOver_26, el_X7_turnOver_27, el_X7_turnOver_30, el_X7_turnOver_31, el_X7_turnOver_32, el_X7_turnOver_35, el_X7_turnOver_36, el_X7_turnOver_39, el_X7_turnOver_40, el_X7_turnOver_42, el_X7_turnOver_43, el_X7_turnOver_46, el_X7_turnOver_47, el_X7_turnOver_50, el_X7_turnOver_53, el_X7_turnOver_54, el_X7_turnOver_57, el_X7_turnOver_59, el_X7_turnOver_61, el_X7_turnOver_64, el_X7_turnOver_65, el_X7_turnOver_68, el_X7_turnOver_70, el_X7_turnOver_71, el_X7_turnOver_72, gf_7_2, gf_7_3, px_ifp, px_ifn, zh_1, zc_1, zc_2, zc_3, zc_4, zc_5, zc_6, zc_7, zc_8, zc_9, zc_10, zc_11, zc_12, zc_20, zc_21, zc_22, zp_1, zp_2, zp_3, zp_4, zp_5, zp_6, zp_7, zp_8, zp_9, zp_10, zp_11, zp_12, zp_20, zp_21, zp_22, upS_eq, upS_ne, upS_up, upz_eq, upz_ne, upz_up, px_al_aI, px_as_aI, px_as_aZ, px_as_aC, px_ln_aI, Option.toList, List.cons_append, List.nil_append, Int.reduceAdd, Int.reduceSub, Int.reduceMul, ↓reduceIte, Nat.reduceEqDiff, eq_self, Int.reduceEq, Int.reduceLT, Int.reduceLE, Int.reduceNe, Int.reduceNeg, Int.reduceToNat, ne_eq, not_true_eq_false, not_false_eq_true, t0, t1, t2, t3, t4, t5, t6, t7, t8, el_X7_turnOver_3 (hcan ..) _ (zo_8 _) _, g2, g3]; repeat (first | simp (disch := first | omega | decide) only [upz_srt, upy_upz, upz_up, upS_srt, upT_upS, upS_up] | simp (disch := first | with_reducible assumption | omega | decide | (simp only [ps_low, List.map_cons, List.map_nil, Value.category, List.sum_cons, List.sum_nil]; decide)) only [el_X7_turnOver_0, el_X7_turnOver_1, el_X7_turnOver_2, el_X7_turnOver_6, el_X7_turnOver_9, el_X7_turnOver_10, el_X7_turnOver_11, el_X7_turnOver_12, el_X7_turnOver_15, el_X7_turnOver_16, el_X7_turnOver_17, el_X7_turnOver_20, el_X7_turnOver_21, el_X7_turnOver_24, el_X7_turnOver_25, el_X7_turnOver_26, el_X7_turnOver_27, el_X7_turnOver_30, el_X7_turnOver_31, el_X7_turnOver_32, el_X7_turnOver_35, el_X7_turnOver_36, el_X7_turnOver_39, el_X7_turnOver_40, el_X7_turnOver_42, el_X7_turnOver_43, el_X7_turnOver_46, el_X7_turnOver_47, el_X7_turnOver_50, el_X7_turnOver_53, el_X7_turnOver_54, el_X7_turnOver_57, el_X7_turnOver_59, el_X7_turnOver_61, el_X7_turnOver_64, el_X7_turnOver_65, el_X7_turnOver_68, el_X7_turnOver_70, el_X7_turnOver_71, el_X7_turnOver_72, gf_7_2, gf_7_3, px_ifp, px_ifn, zh_1, zc_1, zc_2, zc_3, zc_4, zc_5, zc_6, zc_7, zc_8, zc_9, zc_10, zc_11, zc_12, zc_20, zc_21, zc_22, zp_1, zp_2, zp_3, zp_4, zp_5, zp_6, zp_7, zp_8, zp_9, zp_10, zp_11, zp_12, zp_20, zp_21, zp_22, upS_eq, upS_ne, upS_up, upz_eq, upz_ne, upz_up, px_al_aI, px_as_aI, px_as_aZ, px_as_aC, px_ln_aI, Option.toList, List.cons_append, List.nil_append, Int.reduceAdd, Int.reduceSub, Int.reduceMul, ↓reduceIte, Nat.reduceEqDiff, eq_self, Int.reduceEq, Int.reduceLT, Int.reduceLE, Int.reduceNe, Int.reduceNeg, Int.reduceToNat, ne_eq, not_true_eq_false, not_false_eq_true, t0, t1, t2, t3, t4, t5, t6, t7, t8, el_X7_turnOver_3 (hcan ..) _ (zo_8 _) _, g2, g3]))
      exact hQ
  · refine ⟨0, S, ?_, fun a _ => rfl, .inr ⟨hf, rfl, rfl⟩⟩
    have hno : ¬ (1 ≤ m ∧ 2 * m ≤ (if sd < 2 then S q 2 else S q 3)) := by
      rw [g2, g3]
      exact hf
    exact px_R_up (c_turnOver_no (sh_zh hq) (by rw [g2]; omega) (by rw [g3]; omega) hd hm hno) 2
