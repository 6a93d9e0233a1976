/-! A SHEET in the heap of integers -/
theorem h10Z : ¬ (1 : Int) = 0 := by decide
theorem sh_zh {T : Nat → Nat × Nat} {S : Nat → Nat → Int} {c : pm_M × pm_C} {q : Nat} (hq : ly7 T q) : sh (zh T S c) q (S q) (fun k => S (q + k)) := by
  obtain ⟨t0, t1, t2, t3, t4, t5, t6, t7, t8⟩ := hq
  exact ⟨zo_8 t0, zo_20 t1, zo_20 t2, zo_20 t3, zo_20 t4, zo_20 t5, zo_20 t6, zo_20 t7, zo_21 t8⟩
theorem wgt_cnt {z X Y : Nat → Int} {x y : Nat} (hx : x < 8) (hy : y < 8) : ∀ n : Nat, (∀ c, c < n → (0 ≤ X c ∧ X c < 8) ∧ 0 ≤ Y c ∧ Y c < 8) → wgt z X Y n (8 * y + x) = z (8 * y + x) + cnt X Y x y n
  | 0, h => by
    unfold wgt cnt
    omega
  | n + 1, h => by
    have e := wgt_cnt (z := z) hx hy n (fun c hc => h c (by omega))
    have hn := h n (by omega)
    unfold wgt cnt upz
    by_cases g : X n = x ∧ Y n = y
    · have : 8 * y + x = (8 * Y n + X n).toNat := by omega
      rw [if_pos this, if_pos g, ← this, e]
      omega
    · have : ¬ 8 * y + x = (8 * Y n + X n).toNat := by omega
      rw [if_neg this, if_neg g, e]
      omega
/-- a Sheet's cells as the numbers tell -/
def shR (S : Nat → Nat → Int) (q n : Nat) (M : sM) : Prop := (∀ j, j < 5 → S q j = M.1 j) ∧ (∀ k c, 1 ≤ k → k ≤ 6 → c < n → S (q + k) c = M.2 k c) ∧ (∀ c, n ≤ c → c < 64 → S (q + 5) c = 0 ∧ S (q + 6) c = 0) ∧ (∀ x y : Nat, x < 8 → y < 8 → S (q + 7) (8 * y + x) = cnt (M.2 2) (M.2 3) x y n)
theorem shR.eq {S S' : Nat → Nat → Int} {q n : Nat} {M : sM} (h : shR S q n M) (e : ∀ a, q ≤ a → a < q + 8 → S' a = S a) : shR S' q n M := by
  obtain ⟨h1, h2, h3, h4⟩ := h
  refine ⟨fun j hj => ?_, fun k c k1 k6 hc => ?_, fun c c1 c2 => ?_, fun x y hx hy => ?_⟩
  · rw [e q (by omega) (by omega)]
    exact h1 j hj
  · rw [e (q + k) (by omega) (by omega)]
    exact h2 k c k1 k6 hc
  · rw [e (q + 5) (by omega) (by omega), e (q + 6) (by omega) (by omega)]
    exact h3 c c1 c2
  · rw [e (q + 7) (by omega) (by omega)]
    exact h4 x y hx hy
theorem shR.ok {S : Nat → Nat → Int} {q w n : Nat} {M : sM} (h : shR S q n M) (hI : shI w n M) : sh_ok (S q) n := by
  obtain ⟨h1, -, -, -⟩ := h
  obtain ⟨⟨⟨w1, w8, hw⟩, ⟨hh1, hh8, hn, n1, n64⟩, ⟨c1, c8⟩, ⟨l1, l8⟩, f0, f14⟩, -⟩ := hI
  unfold sh_ok
  rw [h1 0 (by omega), h1 1 (by omega), h1 2 (by omega), h1 3 (by omega)]
  exact ⟨by omega, by omega, by omega, by omega, hn, n1, n64⟩
theorem shI_mp {W H : Nat} (hW : 1 ≤ W ∧ W ≤ 8) (hH : 1 ≤ H ∧ H ≤ 8) : shI W (H * W) (mp W H) := by
  have n64 : H * W ≤ 64 := Nat.mul_le_mul hH.2 hW.2
  have n1 : 1 ≤ H * W := Nat.mul_le_mul hH.1 hW.1
  have e2 : ∀ c, (mp W H).2 2 c = ((c % W : Nat) : Int) := fun c => rfl
  have e3 : ∀ c, (mp W H).2 3 c = ((c / W : Nat) : Int) := fun c => rfl
  refine ⟨⟨⟨hW.1, hW.2, rfl⟩, ⟨by change (1 : Int) ≤ H; omega, by change (H : Int) ≤ 8; omega, ?_, n1, n64⟩, by change 1 ≤ (W : Int) ∧ (W : Int) ≤ 8; omega, by change 1 ≤ (H : Int) ∧ (H : Int) ≤ 8; omega, by change (0 : Int) ≤ 0 ∧ (W : Int) + H + 0 ≤ W + H; omega⟩, ?_, ?_, ?_, ?_⟩
  · change ((H * W : Nat) : Int) = (W : Int) * H
    rw [Nat.mul_comm]
    rfl
  · intro c hc
    have hd : c / W < H := by
      rw [Nat.div_lt_iff_lt_mul (by omega)]
      exact hc
    have hm : c % W < W := Nat.mod_lt _ (by omega)
    have hp := cnt_pos (X := (mp W H).2 2) (Y := (mp W H).2 3) (x := (mp W H).2 2 c) (y := (mp W H).2 3 c) (H * W) c hc rfl rfl
    refine ⟨by rw [e2]; exact ⟨Int.natCast_nonneg _, Int.ofNat_lt.mpr hm⟩, by rw [e3]; exact ⟨Int.natCast_nonneg _, Int.ofNat_lt.mpr hd⟩, by change (0 : Int) ≤ 0 ∧ (0 : Int) ≤ 1; decide, ⟨by change (0 : Int) ≤ 0; decide, ?_⟩, by change (0 : Int) ≤ 0 ∧ (0 : Int) ≤ 10 * 0; decide, by change (0 : Int) ≤ 0 ∧ (0 : Int) ≤ 10 * 0; decide⟩
    change (0 : Int) < _
    omega
  · intro c hc hw
    right
    have e := Nat.div_add_mod c W
    have hq : (c + 1) / W = c / W ∧ (c + 1) % W = c % W + 1 := by
      have h1 : c + 1 = W * (c / W) + (c % W + 1) := by omega
      constructor
      · rw [h1, Nat.mul_add_div (by omega), Nat.div_eq_of_lt hw]
        rfl
      · rw [h1, Nat.mul_add_mod, Nat.mod_eq_of_lt hw]
    rw [e2, e2, e3, e3, hq.1, hq.2]
    exact ⟨rfl, rfl, .inl rfl⟩
  · intro c hc
    right
    rw [e2, e2, e3, e3, Nat.add_mod_right, Nat.add_div_right _ (by omega)]
    exact ⟨rfl, rfl, .inl rfl⟩
  · intro c d hc hd h2 h3 _
    rw [e2, e2] at h2
    rw [e3, e3] at h3
    have h2' : c % W = d % W := by omega
    have h3' : c / W = d / W := by omega
    rw [← Nat.div_add_mod c W, ← Nat.div_add_mod d W, h2', h3']
theorem s_layPlain {T : Nat → Nat × Nat} {S : Nat → Nat → Int} {c : pm_M × pm_C} {q W H : Nat} (hq : ly7 T q) (hW : 1 ≤ W ∧ W ≤ 8) (hH : 1 ≤ H ∧ H ≤ 8) :
    ∃ S', px_R 2 58 [.ref q, .int (zI W), .int (zI H), .retAddr 0, .retAddr 0, .retAddr 0] (zh T S c) (.inl none) (zh T S' c) ∧ (∀ a, (a < q ∨ q + 8 ≤ a) → S' a = S a) ∧ shR S' q (H * W) (mp W H) := by
  obtain ⟨t0, t1, t2, t3, t4, t5, t6, t7, t8⟩ := id hq
  have h := c_layPlain (sh_zh (S := S) (c := c) hq) hW hH rfl
  unfold lpE lpH at h
  simp only [zp_8 t0, zp_20 t1, zp_20 t2, zp_20 t3, zp_20 t4, zp_20 t5, zp_20 t6, zp_20 t7] at h
  refine ⟨_, h, fun a ha => ?_, fun j hj => ?_, fun k c k1 k6 hc => ?_, fun c c1 c2 => ?_, fun x y hx hy => ?_⟩
  · simp (disch := omega) only [upS_ne]
  · simp (disch := omega) only [upS_ne, upS_eq]
    unfold lpF upz mp
    rcases (show j = 0 ∨ j = 1 ∨ j = 2 ∨ j = 3 ∨ j = 4 by omega) with rfl | rfl | rfl | rfl | rfl <;> simp
  · have n64 : H * W ≤ 64 := Nat.mul_le_mul hH.2 hW.2
    rcases (show k = 1 ∨ k = 2 ∨ k = 3 ∨ k = 4 ∨ k = 5 ∨ k = 6 by omega) with rfl | rfl | rfl | rfl | rfl | rfl
    · simp (disch := omega) only [upS_ne, upS_eq]
      exact if_pos (by omega)
    · simp (disch := omega) only [upS_ne, upS_eq]
      exact if_pos ⟨hc, h10Z⟩
    · simp (disch := omega) only [upS_ne, upS_eq]
      exact if_pos ⟨hc, h10Z⟩
    · simp (disch := omega) only [upS_ne, upS_eq]
      exact if_pos (by omega)
    · simp (disch := omega) only [upS_ne, upS_eq]
      exact if_pos (by omega)
    · simp (disch := omega) only [upS_ne, upS_eq]
      exact if_pos (by omega)
  · simp (disch := omega) only [upS_ne, upS_eq]
    exact ⟨if_pos (by omega), if_pos (by omega)⟩
  · simp (disch := omega) only [upS_eq]
    have pl : ∀ c, c < H * W → lpX W (S (q + 2)) (H * W) c = ((c % W : Nat) : Int) ∧ lpY W (S (q + 3)) (H * W) c = ((c / W : Nat) : Int) := fun c hc => ⟨if_pos ⟨hc, h10Z⟩, if_pos ⟨hc, h10Z⟩⟩
    rw [wgt_cnt hx hy _ (fun c hc => by
      have hd : c / W < H := by
        rw [Nat.div_lt_iff_lt_mul (by omega)]
        exact hc
      have hm : c % W < W := Nat.mod_lt _ (by omega)
      rw [(pl c hc).1, (pl c hc).2]
      have g1 : ((c % W : Nat) : Int) < W := Int.ofNat_lt.mpr hm
      have g2 : ((c / W : Nat) : Int) < H := Int.ofNat_lt.mpr hd
      exact ⟨⟨Int.natCast_nonneg _, by omega⟩, Int.natCast_nonneg _, by omega⟩)]
    have z : zro (S (q + 7)) (8 * y + x) = 0 := if_pos (by omega)
    rw [z, Int.zero_add]
    refine cnt_congr _ (fun c hc => ?_)
    rw [(pl c hc).1, (pl c hc).2]
    exact Iff.rfl
theorem s_copyFrom {T : Nat → Nat × Nat} {S : Nat → Nat → Int} {c : pm_M × pm_C} {q r n : Nat} {M : sM} (hq : ly7 T q) (hr : ly7 T r) (hd : q + 9 ≤ r ∨ r + 9 ≤ q) (hn : n ≤ 64) (hR : shR S r n M) :
    ∃ S', px_R 0 59 [.ref q, .ref r] (zh T S c) (.inl none) (zh T S' c) ∧ (∀ a, (a < q ∨ q + 8 ≤ a) → S' a = S a) ∧ shR S' q n M := by
  obtain ⟨t0, t1, t2, t3, t4, t5, t6, t7, t8⟩ := id hq
  have h := c_copyFrom (sh_zh (S := S) (c := c) hq) (sh_zh (S := S) (c := c) hr) hd
  unfold cpH cpH cpH cpH cpH cpH cpH cpH at h
  simp only [zp_8 t0, zp_20 t1, zp_20 t2, zp_20 t3, zp_20 t4, zp_20 t5, zp_20 t6, zp_20 t7, Nat.zero_add, Nat.reduceAdd] at h
  obtain ⟨h1, h2, h3, h4⟩ := hR
  have cz : ∀ f g : Nat → Int, ∀ c, c < 64 → cpz f g 0 0 64 c = f c := by
    intro f g c hc
    unfold cpz
    rw [if_pos (by omega), Nat.sub_zero, Nat.zero_add]
  refine ⟨_, h, fun a ha => ?_, fun j hj => ?_, fun k c k1 k6 hc => ?_, fun c c1 c2 => ?_, fun x y hx hy => ?_⟩
  · simp (disch := omega) only [upS_ne]
  · simp (disch := omega) only [upS_ne, upS_eq]
    rw [← h1 j hj]
    unfold cpF upz
    rcases (show j = 0 ∨ j = 1 ∨ j = 2 ∨ j = 3 ∨ j = 4 by omega) with rfl | rfl | rfl | rfl | rfl <;> simp
  · rw [← h2 k c k1 k6 hc]
    rcases (show k = 1 ∨ k = 2 ∨ k = 3 ∨ k = 4 ∨ k = 5 ∨ k = 6 by omega) with rfl | rfl | rfl | rfl | rfl | rfl
    all_goals
      simp (disch := omega) only [upS_ne, upS_eq]
      exact cz _ _ c (by omega)
  · have := h3 c c1 c2
    simp (disch := omega) only [upS_ne, upS_eq]
    rw [cz _ _ c c2, cz _ _ c c2]
    exact this
  · simp (disch := omega) only [upS_eq]
    rw [cz _ _ _ (by omega)]
    exact h4 x y hx hy
/-! turnOver -/
theorem z_canTurn {T : Nat → Nat × Nat} {S : Nat → Nat → Int} {c : pm_M × pm_C} {q : Nat} {sd m : Int} (hq : ly7 T q) (h2 : 1 ≤ S q 2 ∧ S q 2 ≤ 8) (h3 : 1 ≤ S q 3 ∧ S q 3 ≤ 8) (hd : 0 ≤ sd ∧ sd ≤ 3) (hm : -2147483648 ≤ m ∧ m ≤ 2147483647) :
    px_R 0 60 [.ref q, .int (zI sd), .int (zI m), .retAddr 0] (zh T S c) (.inl (some (.int (zI (if 1 ≤ m ∧ 2 * m ≤ (if sd < 2 then S q 2 else S q 3) then 1 else 0))))) (zh T S c) := c_canTurn (sh_zh hq) h2 h3 hd hm
theorem z_markMoving {T : Nat → Nat × Nat} {S : Nat → Nat → Int} {c : pm_M × pm_C} {q n k : Nat} {edge ff : Int} (hq : ly7 T q) (ho : sh_ok (S q) n) (hk : k = 2 ∨ k = 3) (hz : ∀ c, c < n → 0 ≤ S (q + k) c ∧ S (q + k) c < 8) (he : 0 ≤ edge ∧ edge ≤ 8) (hf : ff = 0 ∨ ff = 1) :
    px_R 1 63 [.ref q, .ref (q + k), .int (zI edge), .int (zI ff), .retAddr 0, .retAddr 0] (zh T S c) (.inl none) (zh T (upS S (q + 8) (mvF (S (q + k)) edge ff (S (q + 8)) n)) c) := by
  obtain ⟨t0, t1, t2, t3, t4, t5, t6, t7, t8⟩ := id hq
  have h := c_markMoving (k := k) (sh_zh (S := S) (c := c) hq) ho hk hz he hf
  rw [zp_21 t8] at h
  exact h
theorem z_addCreases {T : Nat → Nat × Nat} {S : Nat → Nat → Int} {c : pm_M × pm_C} {q n w : Nat} (hq : ly7 T q) (ho : sh_ok (S q) n) (hw : (w : Int) = S q 0) (h4 : 0 ≤ S q 4 ∧ S q 4 ≤ 20) (hb : ∀ c, c < n → 0 ≤ S (q + 1) c ∧ S (q + 1) c ≤ 1) (hm : ∀ c, c < n → 0 ≤ S (q + 8) c ∧ S (q + 8) c ≤ 1) :
    px_R 1 64 [.ref q, .retAddr 0, .retAddr 0, .retAddr 0, .retAddr 0, .retAddr 0] (zh T S c) (.inl none) (zh T (upS (upS S (q + 5) (crR w (S (q + 8)) (S (q + 1)) (S q 4) (S (q + 5)) n)) (q + 6) (crD w n (S (q + 8)) (S (q + 1)) (S q 4) (S (q + 6)) n)) c) := by
  obtain ⟨t0, t1, t2, t3, t4, t5, t6, t7, t8⟩ := id hq
  have h := c_addCreases (sh_zh (S := S) (c := c) hq) ho hw h4 hb hm
  unfold crH at h
  rw [zp_20 t5, zp_20 t6] at h
  exact h
theorem z_turnCells {T : Nat → Nat × Nat} {S : Nat → Nat → Int} {c : pm_M × pm_C} {q n : Nat} {up edge : Int} (hq : ly7 T q) (ho : sh_ok (S q) n) (hu : up = 0 ∨ up = 1) (he : 0 ≤ edge ∧ edge ≤ 8) (hp : ∀ c, c < n → (0 ≤ S (q + 2) c ∧ S (q + 2) c < 8) ∧ 0 ≤ S (q + 3) c ∧ S (q + 3) c < 8) (hm : ∀ c, c < n → S (q + 8) c = 0 ∨ S (q + 8) c = 1) :
    px_R 1 66 [.ref q, .int (zI up), .int (zI edge), .retAddr 0, .retAddr 0, .retAddr 0] (zh T S c) (.inl none) (zh T (upS (upS (upS (upS S (q + 1) (tcS n (S (q + 8)) (fun j => 1 - S (q + 1) j) (S (q + 1)))) (q + 2) (tcS n (S (q + 8)) (fun j => if up = 1 then 2 * edge - 1 - S (q + 2) j else S (q + 2) j) (S (q + 2)))) (q + 3) (tcS n (S (q + 8)) (fun j => if up = 1 then S (q + 3) j else 2 * edge - 1 - S (q + 3) j) (S (q + 3))))
      (q + 4) (tcS n (S (q + 8)) (fun j => wAt (S (q + 7)) (if up = 1 then 2 * edge - 1 - S (q + 2) j else S (q + 2) j) (if up = 1 then S (q + 3) j else 2 * edge - 1 - S (q + 3) j) + (wAt (S (q + 7)) (S (q + 2) j) (S (q + 3) j) - 1 - S (q + 4) j)) (S (q + 4)))) c) := by
  obtain ⟨t0, t1, t2, t3, t4, t5, t6, t7, t8⟩ := id hq
  have h := c_turnCells (sh_zh (S := S) (c := c) hq) ho hu he hp hm
  unfold tcH at h
  rw [zp_20 t1, zp_20 t2, zp_20 t3, zp_20 t4] at h
  exact h
def nfS (n : Nat) (m : Int) (f : Nat → Int) : Nat → Int := fun j => if j < n then f j - m else f j
theorem z_numberFrom {T : Nat → Nat × Nat} {S : Nat → Nat → Int} {c : pm_M × pm_C} {q n k : Nat} {m : Int} (hq : ly7 T q) (ho : sh_ok (S q) n) (hk : k = 2 ∨ k = 3) :
    px_R 1 67 [.ref q, .ref (q + k), .int (zI m), .retAddr 0, .retAddr 0] (zh T S c) (.inl none) (zh T (upS S (q + k) (nfS n m (S (q + k)))) c) := by
  obtain ⟨t0, t1, t2, t3, t4, t5, t6, t7, t8⟩ := id hq
  have h := c_numberFrom (k := k) (m := m) (sh_zh (S := S) (c := c) hq) ho hk
  rcases hk with rfl | rfl
  · rw [zp_20 t2] at h
    exact h
  · rw [zp_20 t3] at h
    exact h
theorem z_weigh {T : Nat → Nat × Nat} {S : Nat → Nat → Int} {c : pm_M × pm_C} {q n : Nat} (hq : ly7 T q) (ho : sh_ok (S q) n) (hp : ∀ c, c < n → (0 ≤ S (q + 2) c ∧ S (q + 2) c < S q 2) ∧ 0 ≤ S (q + 3) c ∧ S (q + 3) c < S q 3) :
    px_R 1 68 [.ref q, .retAddr 0, .retAddr 0] (zh T S c) (.inl none) (zh T (upS S (q + 7) (wgt (zro (S (q + 7))) (S (q + 2)) (S (q + 3)) n)) c) := by
  obtain ⟨t0, t1, t2, t3, t4, t5, t6, t7, t8⟩ := id hq
  have h := c_weigh (sh_zh (S := S) (c := c) hq) ho hp
  rw [zp_20 t7] at h
  exact h
