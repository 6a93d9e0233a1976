/-! AN EVENING BY ALL ORDERS: the first best of them is what the class gives -/
def upd2 (s : Option (Int × List Nat)) (v : Int) (q : List Nat) : Option (Int × List Nat) := match s with
  | none => some (v, q)
  | some p => if v ≤ p.1 then some p else some (v, q)
def twL (f : Nat → Option (Int × List Nat) → Option (Int × List Nat)) (u : Nat) : Nat → Nat → Option (Int × List Nat) → Option (Int × List Nat)
  | 0, _, s => s
  | c + 1, t, s => twL f u c (t + 1) (if btN u t = 0 then f t s else s)
def twF (far : Nat → Nat → Int) : Nat → Nat → Nat → Int → List Nat → Option (Int × List Nat) → Option (Int × List Nat)
  | 0, _, _, sum, pre, s => upd2 s sum pre
  | k + 1, i, u, sum, pre, s => twL (fun t s => twF far k (i + 1) (u ||| 2 ^ t) (sum + far i t) (pre ++ [t]) s) u 7 0 s
/-- the trims that the class gives -/
def grF (far : Nat → Nat → Int) (N : Nat) : Nat → Nat → Nat → List Nat
  | 0, _, _ => []
  | k + 1, i, u => (ltT u (fun t => far i t + evW far N k (u ||| 2 ^ t)) (evW far N (k + 1) u)).toNat :: grF far N k (i + 1) (u ||| 2 ^ (ltT u (fun t => far i t + evW far N k (u ||| 2 ^ t)) (evW far N (k + 1) u)).toNat)
theorem fsB_eq {p : Nat → Bool} {j : Nat} : ∀ (k i : Nat), i ≤ j → j < i + k → p j = true → (∀ a, i ≤ a → a < j → p a = false) → fsB p k i = j
  | 0, i, h1, h2, _, _ => by omega
  | k + 1, i, h1, h2, h3, h4 => by
    unfold fsB
    by_cases e : i = j
    · rw [e, if_pos h3]
    · rw [h4 i (Nat.le_refl i) (by omega), if_neg (fun z => by cases z)]
      exact fsB_eq k (i + 1) (by omega) (by omega) h3 (fun a a1 a2 => h4 a (by omega) a2)
theorem ltT_eq {u T : Nat} {g : Nat → Int} {B : Int} (hT : T < 7) (h0 : btN u T = 0) (hg : g T = B) (hl : ∀ j, j < T → btN u j = 0 → g j ≠ B) : ltT u g B = T := by
  have e := fsB_eq (p := fun t => decide (btN u t = 0) && decide (g t = B)) (j := T) 7 0 (Nat.zero_le T) (by omega) (by rw [decide_eq_true h0, decide_eq_true hg]; rfl) (fun a _ a2 => by
    by_cases g0 : btN u a = 0
    · rw [decide_eq_false (hl a a2 g0), Bool.and_false]
    · rw [decide_eq_false g0, Bool.false_and])
  unfold ltT
  rw [e, if_neg (by omega)]
theorem upd2_mono {s : Option (Int × List Nat)} {v w : Int} {q r : List Nat} (h : w ≤ v) : upd2 (upd2 s v q) w r = upd2 s v q := by
  cases s with
  | none =>
    show (if w ≤ v then _ else _) = _
    exact if_pos h
  | some p =>
    show upd2 (if v ≤ p.1 then some p else some (v, q)) w r = (if v ≤ p.1 then some p else some (v, q))
    by_cases g : v ≤ p.1
    · rw [if_pos g]
      show (if w ≤ p.1 then _ else _) = _
      exact if_pos (by omega)
    · rw [if_neg g]
      show (if w ≤ v then _ else _) = _
      exact if_pos h
theorem upd2_over {s : Option (Int × List Nat)} {v w : Int} {q r : List Nat} (h : v < w) : upd2 (upd2 s v q) w r = upd2 s w r := by
  cases s with
  | none =>
    show (if w ≤ v then _ else _) = _
    exact if_neg (by omega)
  | some p =>
    show upd2 (if v ≤ p.1 then some p else some (v, q)) w r = (if w ≤ p.1 then some p else some (w, r))
    by_cases g : v ≤ p.1
    · rw [if_pos g]
      rfl
    · rw [if_neg g]
      show (if w ≤ v then _ else _) = _
      rw [if_neg (by omega), if_neg (by omega)]
section TW
variable {u : Nat} {g : Nat → Int} {h : Nat → List Nat} {sum : Int} {pre : List Nat} {f : Nat → Option (Int × List Nat) → Option (Int × List Nat)} {s0 : Option (Int × List Nat)}
theorem twL_eq (hf : ∀ t s, t < 7 → btN u t = 0 → f t s = upd2 s (sum + g t) (pre ++ t :: h t)) : ∀ (c t : Nat) (any : Bool) (b : Int) (cur : Option (Int × List Nat)), t + c = 7 →
    ((any = false ∧ cur = s0 ∧ ∀ j, j < t → btN u j ≠ 0) ∨ (any = true ∧ ∃ T, cur = upd2 s0 (sum + b) (pre ++ T :: h T) ∧ (btN u T = 0 ∧ T < t ∧ g T = b) ∧ (∀ j, j < T → btN u j = 0 → g j < b) ∧ ∀ j, j < t → btN u j = 0 → g j ≤ b)) →
    (twL f u c t cur = s0 ∧ ∀ j, j < 7 → btN u j ≠ 0) ∨ ∃ T, twL f u c t cur = upd2 s0 (sum + mxF u g c t any b) (pre ++ T :: h T) ∧ (btN u T = 0 ∧ T < 7 ∧ g T = mxF u g c t any b) ∧ ∀ j, j < T → btN u j = 0 → g j < mxF u g c t any b
  | 0, t, any, b, cur, ht, hc => by
    have e : t = 7 := by omega
    subst e
    rcases hc with ⟨-, h1, h2⟩ | ⟨-, T, h1, h2, h3, -⟩
    · exact .inl ⟨h1, h2⟩
    · exact .inr ⟨T, h1, h2, h3⟩
  | c + 1, t, any, b, cur, ht, hc => by
    unfold twL mxF
    by_cases g0 : btN u t = 0
    · rw [if_pos g0, if_pos g0]
      refine twL_eq hf c (t + 1) true _ _ (by omega) (.inr ⟨rfl, ?_⟩)
      rw [hf t cur (by omega) g0]
      rcases hc with ⟨h1, h2, h3⟩ | ⟨h1, T, h2, ⟨h3, h4, h5⟩, h6, h7⟩
      · rw [if_neg (fun z => by rw [h1] at z; cases z.1), h2]
        exact ⟨t, rfl, ⟨g0, by omega, rfl⟩, fun j hj z => absurd z (h3 j hj), fun j hj z => by
          by_cases e : j = t
          · rw [e]
            exact Int.le_refl _
          · exact absurd z (h3 j (by omega))⟩
      · by_cases g1 : g t ≤ b
        · rw [if_pos ⟨h1, g1⟩, h2, upd2_mono (by omega)]
          exact ⟨T, rfl, ⟨h3, by omega, h5⟩, h6, fun j hj z => by
            by_cases e : j = t
            · rw [e]
              exact g1
            · exact h7 j (by omega) z⟩
        · rw [if_neg (fun z => g1 z.2), h2, upd2_over (by omega)]
          refine ⟨t, rfl, ⟨g0, by omega, rfl⟩, fun j hj z => ?_, fun j hj z => ?_⟩
          · have := h7 j hj z
            omega
          · by_cases e : j = t
            · rw [e]
              exact Int.le_refl _
            · have := h7 j (by omega) z
              omega
    · rw [if_neg g0, if_neg g0]
      refine twL_eq hf c (t + 1) any b _ (by omega) ?_
      rcases hc with ⟨h1, h2, h3⟩ | ⟨h1, T, h2, ⟨h3, h4, h5⟩, h6, h7⟩
      · exact .inl ⟨h1, h2, fun j hj => by
          by_cases e : j = t
          · rw [e]; exact g0
          · exact h3 j (by omega)⟩
      · exact .inr ⟨h1, T, h2, ⟨h3, by omega, h5⟩, h6, fun j hj z => by
          by_cases e : j = t
          · rw [e] at z; exact absurd z g0
          · exact h7 j (by omega) z⟩
end TW
theorem free_ex {u : Nat} (hu : u < 128) (h : pcN u < 7) : ∃ t, t < 7 ∧ btN u t = 0 := by
  have key : ∀ u ∈ List.range 128, pcN u < 7 → ∃ t ∈ List.range 7, btN u t = 0 := by decide +kernel
  obtain ⟨t, h1, h2⟩ := key u (List.mem_range.mpr hu) h
  exact ⟨t, List.mem_range.mp h1, h2⟩
theorem tw_eq {far : Nat → Nat → Int} {N : Nat} (hN : N ≤ 7) : ∀ (k i u : Nat) (sum : Int) (pre : List Nat) (s : Option (Int × List Nat)), i + k = N → u < 128 → pcN u = i → twF far k i u sum pre s = upd2 s (sum + evW far N k u) (pre ++ grF far N k i u)
  | 0, i, u, sum, pre, s, hk, hu, hp => by
    show upd2 s sum pre = upd2 s (sum + 0) (pre ++ [])
    rw [Int.add_zero, List.append_nil]
  | k + 1, i, u, sum, pre, s, hk, hu, hp => by
    have ei : N - (k + 1) = i := by omega
    have hf : ∀ t s, t < 7 → btN u t = 0 → twF far k (i + 1) (u ||| 2 ^ t) (sum + far i t) (pre ++ [t]) s = upd2 s (sum + (far i t + evW far N k (u ||| 2 ^ t))) (pre ++ t :: grF far N k (i + 1) (u ||| 2 ^ t)) := by
      intro t s ht h0
      have hpc := pc_or hu ht h0
      rw [tw_eq hN k (i + 1) (u ||| 2 ^ t) _ _ s (by omega) (or_r hu ht) (by omega), Int.add_assoc, List.append_assoc]
      rfl
    have e0 : evW far N (k + 1) u = mxF u (fun t => far i t + evW far N k (u ||| 2 ^ t)) 7 0 false 0 := by
      show mxF u (fun t => far (N - (k + 1)) t + evW far N k (u ||| 2 ^ t)) 7 0 false 0 = _
      rw [ei]
    have key := twL_eq (u := u) (g := fun t => far i t + evW far N k (u ||| 2 ^ t)) (h := fun t => grF far N k (i + 1) (u ||| 2 ^ t)) (sum := sum) (pre := pre) (f := fun t s => twF far k (i + 1) (u ||| 2 ^ t) (sum + far i t) (pre ++ [t]) s) (s0 := s) hf 7 0 false 0 s rfl (.inl ⟨rfl, rfl, fun j hj => absurd hj (Nat.not_lt_zero j)⟩)
    rw [← e0] at key
    show twL (fun t s => twF far k (i + 1) (u ||| 2 ^ t) (sum + far i t) (pre ++ [t]) s) u 7 0 s = _
    rcases key with ⟨-, h2⟩ | ⟨T, h1, ⟨h2, h3, h4⟩, h5⟩
    · obtain ⟨t, t1, t2⟩ := free_ex hu (by omega)
      exact absurd t2 (h2 t t1)
    · have eT := ltT_eq (u := u) (T := T) (g := fun t => far i t + evW far N k (u ||| 2 ^ t)) (B := evW far N (k + 1) u) h3 h2 h4 (fun j hj z => by have := h5 j hj z; omega)
      rw [h1]
      show _ = upd2 s (sum + evW far N (k + 1) u) (pre ++ ((ltT u (fun t => far i t + evW far N k (u ||| 2 ^ t)) (evW far N (k + 1) u)).toNat :: grF far N k (i + 1) (u ||| 2 ^ (ltT u (fun t => far i t + evW far N k (u ||| 2 ^ t)) (evW far N (k + 1) u)).toNat)))
      rw [eT, Int.toNat_natCast]
/-- a row of trims, given to the minutes from i on -/
def apT (mins : Nat → Int) : Nat → List Nat → (Nat → Int) → (Nat → Int)
  | _, [], tr => tr
  | i, t :: r, tr => apT mins (i + 1) r (upz tr (mins i).toNat ((t : Int) - 3))
theorem gr_len {far : Nat → Nat → Int} {N : Nat} : ∀ (k i u : Nat), (grF far N k i u).length = k
  | 0, i, u => rfl
  | k + 1, i, u => by
    unfold grF
    rw [List.length_cons, gr_len k]
theorem ltT_free {u : Nat} {g g' : Nat → Int} {B : Int} (h : ∀ t, t < 7 → btN u t = 0 → g t = g' t) : ltT u g B = ltT u g' B := by
  have e : ∀ t, t < 7 → (decide (btN u t = 0) && decide (g t = B)) = (decide (btN u t = 0) && decide (g' t = B)) := by
    intro t ht
    by_cases g0 : btN u t = 0
    · rw [h t ht g0]
    · rw [decide_eq_false g0, Bool.false_and, Bool.false_and]
  unfold ltT
  rw [fsB_congr 7 0 (fun j _ h2 => e j (by omega))]
theorem asG_gr {far : Nat → Nat → Int} {mins : Nat → Int} {N : Nat} (hN : N ≤ 7) : ∀ (k i u : Nat) (tr : Nat → Int), i + k = N → u < 128 → pcN u = i → asG far mins (fun u => evW far N (N - pcN u) u) k i u tr = apT mins i (grF far N k i u) tr
  | 0, i, u, tr, _, _, _ => rfl
  | k + 1, i, u, tr, hk, hu, hp => by
    have e1 : N - pcN u = k + 1 := by omega
    have e2 : ltT u (fun t => far i t + (fun u => evW far N (N - pcN u) u) (u ||| 2 ^ t)) ((fun u => evW far N (N - pcN u) u) u) = ltT u (fun t => far i t + evW far N k (u ||| 2 ^ t)) (evW far N (k + 1) u) := by
      dsimp only
      rw [e1]
      refine ltT_free (fun t ht h0 => ?_)
      have := pc_or hu ht h0
      rw [show N - pcN (u ||| 2 ^ t) = k by omega]
    unfold asG grF apT
    rw [e2]
    -- the trim is a free one
    have hr := ltT_r (u := u) (g := fun t => far i t + evW far N k (u ||| 2 ^ t)) (most := evW far N (k + 1) u)
    obtain ⟨x, hx⟩ : ∃ x : Nat, ltT u (fun t => far i t + evW far N k (u ||| 2 ^ t)) (evW far N (k + 1) u) = x := ⟨(ltT u (fun t => far i t + evW far N k (u ||| 2 ^ t)) (evW far N (k + 1) u)).toNat, by omega⟩
    have hfree : btN u x = 0 := by
      have e0 : evW far N (k + 1) u = mxF u (fun t => far i t + evW far N k (u ||| 2 ^ t)) 7 0 false 0 := by
        show mxF u (fun t => far (N - (k + 1)) t + evW far N k (u ||| 2 ^ t)) 7 0 false 0 = _
        rw [show N - (k + 1) = i by omega]
      have key := twL_eq (u := u) (g := fun t => far i t + evW far N k (u ||| 2 ^ t)) (h := fun t => []) (sum := 0) (pre := []) (f := fun t s => upd2 s (0 + (far i t + evW far N k (u ||| 2 ^ t))) ([] ++ t :: [])) (s0 := none) (fun t s _ _ => rfl) 7 0 false 0 none rfl (.inl ⟨rfl, rfl, fun j hj => absurd hj (Nat.not_lt_zero j)⟩)
      rw [← e0] at key
      rcases key with ⟨-, h2⟩ | ⟨T, h1, ⟨h2, h3, h4⟩, h5⟩
      · obtain ⟨t, t1, t2⟩ := free_ex hu (by omega)
        exact absurd t2 (h2 t t1)
      · have eT := ltT_eq (u := u) (T := T) (g := fun t => far i t + evW far N k (u ||| 2 ^ t)) (B := evW far N (k + 1) u) h3 h2 h4 (fun j hj z => by have := h5 j hj z; omega)
        rw [hx] at eT
        have : x = T := by omega
        rw [this]
        exact h2
    rw [hx, Int.toNat_natCast]
    have hpc := pc_or hu (show x < 7 by omega) hfree
    exact asG_gr hN k (i + 1) (u ||| 2 ^ x) _ (by omega) (or_r hu (by omega)) (by omega)
theorem apT_at {mins : Nat → Int} {j : Nat} : ∀ (l : List Nat) (i : Nat) (tr tr' : Nat → Int), (tr j = tr' j ∨ ∃ a, i ≤ a ∧ a < i + l.length ∧ (mins a).toNat = j) → apT mins i l tr j = apT mins i l tr' j
  | [], i, tr, tr', h => by
    rcases h with h | ⟨a, h1, h2, -⟩
    · exact h
    · rw [List.length_nil] at h2
      omega
  | t :: r, i, tr, tr', h => by
    unfold apT
    refine apT_at r (i + 1) _ _ ?_
    unfold upz
    by_cases e : j = (mins i).toNat
    · left
      rw [if_pos e, if_pos e]
    · rcases h with h | ⟨a, h1, h2, h3⟩
      · left
        rw [if_neg e, if_neg e]
        exact h
      · right
        rw [List.length_cons] at h2
        have : a ≠ i := fun z => e (by rw [← h3, z])
        exact ⟨a, by omega, by omega, h3⟩
