/-! THE ROWS AS NUMBERS: all rows of a length, by their digits, are the rows that the class meets -/
def dg (nk : Nat) : Nat → Nat → List Nat
  | 0, _ => []
  | r + 1, x => dg nk r (x / nk) ++ [x % nk]
theorem dg_len {nk : Nat} : ∀ r x, (dg nk r x).length = r
  | 0, _ => rfl
  | r + 1, x => by
    unfold dg
    rw [List.length_append, dg_len r]
    rfl
theorem dg_cons {nk : Nat} (h : 0 < nk) : ∀ r k j, k < nk → j < nk ^ r → dg nk (r + 1) (k * nk ^ r + j) = k :: dg nk r j
  | 0, k, j, hk, hj => by
    have e : j = 0 := by
      rw [Nat.pow_zero] at hj
      omega
    subst e
    unfold dg
    rw [Nat.pow_zero, Nat.mul_one, Nat.add_zero, Nat.mod_eq_of_lt hk]
    rfl
  | r + 1, k, j, hk, hj => by
    have hj2 : j < nk * nk ^ r := by rw [Nat.mul_comm, ← Nat.pow_succ]; exact hj
    have hp : k * nk ^ (r + 1) = nk * (k * nk ^ r) := by
      rw [Nat.pow_succ, Nat.mul_comm nk, Nat.mul_assoc]
    have e1 : (k * nk ^ (r + 1) + j) / nk = k * nk ^ r + j / nk := by
      rw [hp, Nat.mul_add_div h]
    have e2 : (k * nk ^ (r + 1) + j) % nk = j % nk := by
      rw [hp, Nat.mul_add_mod]
    have ih := dg_cons h r k (j / nk) hk (Nat.div_lt_of_lt_mul hj2)
    show dg nk (r + 1) ((k * nk ^ (r + 1) + j) / nk) ++ [(k * nk ^ (r + 1) + j) % nk] = k :: (dg nk r (j / nk) ++ [j % nk])
    rw [e1, e2, ih]
    rfl
theorem dg_lt {nk : Nat} (h : 0 < nk) : ∀ r x, ∀ d ∈ dg nk r x, d < nk
  | 0, x, d, hd => by cases hd
  | r + 1, x, d, hd => by
    unfold dg at hd
    rcases List.mem_append.mp hd with hd | hd
    · exact dg_lt h r _ d hd
    · rw [List.mem_singleton] at hd
      rw [hd]
      exact Nat.mod_lt _ h
/-- folded by a row -/
def tryD (w n : Nat) (ks kn : Nat → Int) : sM → List Nat → Option sM
  | M, [] => some M
  | M, k :: r => if fOb M (ks k) (kn k) = true then tryD w n ks kn (mt w n M (ks k) (kn k)) r else none
theorem tryD_cons {w n : Nat} {ks kn : Nat → Int} {M : sM} {k : Nat} {r : List Nat} : tryD w n ks kn M (k :: r) = if fOb M (ks k) (kn k) = true then tryD w n ks kn (mt w n M (ks k) (kn k)) r else none := rfl
theorem tryD_app {w n : Nat} {ks kn : Nat → Int} : ∀ (a b : List Nat) (M : sM), tryD w n ks kn M (a ++ b) = (tryD w n ks kn M a).bind (fun M' => tryD w n ks kn M' b)
  | [], b, M => rfl
  | k :: r, b, M => by
    rw [List.cons_append, tryD_cons, tryD_cons]
    by_cases g : fOb M (ks k) (kn k) = true
    · rw [if_pos g, if_pos g]
      exact tryD_app r b _
    · rw [if_neg g, if_neg g]
      rfl
section RW
variable {α : Type} {w n nk many : Nat} {ks kn : Nat → Int} {P : sM} {f : α → List Nat × sM → α}
/-- what is done with t rows from the number b on -/
def rwT (f : α → List Nat × sM → α) (w n nk many : Nat) (ks kn : Nat → Int) (P : sM) : Nat → Nat → α → α
  | 0, _, A => A
  | t + 1, b, A => rwT f w n nk many ks kn P t (b + 1) (match tryD w n ks kn P (dg nk many b) with | none => A | some M => f A (dg nk many b, M))
theorem rwT_add : ∀ (a b base : Nat) (A : α), rwT f w n nk many ks kn P (a + b) base A = rwT f w n nk many ks kn P b (base + a) (rwT f w n nk many ks kn P a base A)
  | 0, b, base, A => by
    rw [Nat.zero_add]
    rfl
  | a + 1, b, base, A => by
    rw [show a + 1 + b = (a + b) + 1 by omega]
    show rwT f w n nk many ks kn P (a + b) (base + 1) _ = _
    rw [rwT_add a b (base + 1) _, show base + 1 + a = base + (a + 1) by omega]
    rfl
theorem rwT_none : ∀ (t base : Nat) (A : α), (∀ j, j < t → tryD w n ks kn P (dg nk many (base + j)) = none) → rwT f w n nk many ks kn P t base A = A
  | 0, base, A, _ => rfl
  | t + 1, base, A, h => by
    have h0 := h 0 (by omega)
    rw [Nat.add_zero] at h0
    show rwT f w n nk many ks kn P t (base + 1) (match tryD w n ks kn P (dg nk many base) with | none => A | some M => f A (dg nk many base, M)) = A
    rw [h0]
    exact rwT_none t (base + 1) A (fun j hj => by rw [show base + 1 + j = base + (j + 1) by omega]; exact h (j + 1) (by omega))
theorem rwT_feas (h0 : 0 < nk) : ∀ (r : Nat) (M : sM) (pre : List Nat) (base : Nat) (A : α), (∀ j, j < nk ^ r → dg nk many (base + j) = pre ++ dg nk r j) → tryD w n ks kn P pre = some M →
    rwT f w n nk many ks kn P (nk ^ r) base A = (feas w n ks kn nk r M).foldl (fun A p => f A (pre ++ p.1, p.2)) A
  | 0, M, pre, base, A, hp, hM => by
    have e := hp 0 (by rw [Nat.pow_zero]; omega)
    have e0 : dg nk 0 0 = [] := rfl
    rw [Nat.add_zero, e0, List.append_nil] at e
    rw [Nat.pow_zero]
    show (match tryD w n ks kn P (dg nk many base) with | none => A | some M => f A (dg nk many base, M)) = f A (pre ++ [], M)
    rw [e, hM, List.append_nil]
  | r + 1, M, pre, base, A, hp, hM => by
    have key : ∀ (c k : Nat) (A : α), k + c = nk → rwT f w n nk many ks kn P (c * nk ^ r) (base + k * nk ^ r) A = (catK (fun k => if fOb M (ks k) (kn k) = true then (feas w n ks kn nk r (mt w n M (ks k) (kn k))).map (fun p => (k :: p.1, p.2)) else []) c k).foldl (fun A p => f A (pre ++ p.1, p.2)) A := by
      intro c
      induction c with
      | zero =>
        intro k A _
        rw [Nat.zero_mul]
        rfl
      | succ c ih =>
        intro k A hk
        have hblk : ∀ j, j < nk ^ r → dg nk many (base + k * nk ^ r + j) = pre ++ (k :: dg nk r j) := by
          intro j hj
          have hlt : k * nk ^ r + j < nk ^ (r + 1) := by
            rw [Nat.pow_succ, Nat.mul_comm]
            have : nk ^ r * (k + 1) ≤ nk ^ r * nk := Nat.mul_le_mul_left _ (by omega)
            rw [Nat.mul_add, Nat.mul_one] at this
            omega
          rw [Nat.add_assoc, hp _ hlt, dg_cons h0 r k j (by omega) hj]
        have ex : base + k * nk ^ r + nk ^ r = base + (k + 1) * nk ^ r := by
          rw [Nat.add_mul, Nat.one_mul, Nat.add_assoc]
        rw [show (c + 1) * nk ^ r = nk ^ r + c * nk ^ r by rw [Nat.add_mul, Nat.one_mul, Nat.add_comm], rwT_add, ex, ih (k + 1) _ (by omega)]
        show _ = ((if fOb M (ks k) (kn k) = true then (feas w n ks kn nk r (mt w n M (ks k) (kn k))).map (fun p : List Nat × sM => (k :: p.1, p.2)) else []) ++ catK _ c (k + 1)).foldl _ A
        rw [List.foldl_append]
        congr 1
        by_cases g : fOb M (ks k) (kn k) = true
        · rw [if_pos g, List.foldl_map]
          have hM' : tryD w n ks kn P (pre ++ [k]) = some (mt w n M (ks k) (kn k)) := by
            rw [tryD_app, hM]
            show tryD w n ks kn M [k] = _
            unfold tryD
            rw [if_pos g]
            rfl
          rw [rwT_feas h0 r _ (pre ++ [k]) _ A (fun j hj => by rw [hblk j hj, List.append_assoc]; rfl) hM']
          congr 1
          funext A p
          rw [List.append_assoc]
          rfl
        · rw [if_neg g]
          refine rwT_none _ _ _ (fun j hj => ?_)
          rw [hblk j hj, tryD_app, hM]
          show tryD w n ks kn M (k :: dg nk r j) = none
          unfold tryD
          rw [if_neg g]
    have := key nk 0 A (by omega)
    rw [Nat.zero_mul, Nat.add_zero, Nat.mul_comm, ← Nat.pow_succ] at this
    exact this
/-- all lengths -/
def rwV (f : α → List Nat × sM → α) (w n nk : Nat) (ks kn : Nat → Int) (P : sM) : Nat → Nat → α → α
  | 0, _, A => A
  | t + 1, many, A => rwV f w n nk ks kn P t (many + 1) (rwT f w n nk many ks kn P (nk ^ many) 0 A)
theorem rwV_feaU (h0 : 0 < nk) : ∀ (t many : Nat) (A : α), rwV f w n nk ks kn P t many A = (catK (fun r => feas w n ks kn nk r P) t many).foldl f A
  | 0, many, A => rfl
  | t + 1, many, A => by
    show rwV f w n nk ks kn P t (many + 1) _ = (feas w n ks kn nk many P ++ catK _ t (many + 1)).foldl f A
    rw [rwV_feaU h0 t (many + 1) _, List.foldl_append, rwT_feas h0 many P [] 0 A (fun j hj => by rw [Nat.zero_add]; rfl) rfl]
    rfl
end RW
theorem catK_mem {α : Type} {g : Nat → List α} {p : α} : ∀ (c k : Nat), p ∈ catK g c k → ∃ j, k ≤ j ∧ j < k + c ∧ p ∈ g j
  | 0, k, h => by cases h
  | c + 1, k, h => by
    unfold catK at h
    rcases List.mem_append.mp h with h | h
    · exact ⟨k, Nat.le_refl k, by omega, h⟩
    · obtain ⟨j, h1, h2, h3⟩ := catK_mem c (k + 1) h
      exact ⟨j, by omega, by omega, h3⟩
theorem feas_I {w n nk : Nat} {ks kn : Nat → Int} (hk : ∀ k, k < nk → 0 ≤ ks k ∧ ks k ≤ 3) : ∀ (r : Nat) (M : sM), shI w n M → ∀ p ∈ feas w n ks kn nk r M, shI w n p.2 ∧ p.1.length = r
  | 0, M, hM, p, hp => by
    unfold feas at hp
    rw [List.mem_singleton] at hp
    subst hp
    exact ⟨hM, rfl⟩
  | r + 1, M, hM, p, hp => by
    unfold feas at hp
    obtain ⟨j, _, h2, h3⟩ := catK_mem _ _ hp
    by_cases g : fOb M (ks j) (kn j) = true
    · rw [if_pos g] at h3
      obtain ⟨q, hq, rfl⟩ := List.mem_map.mp h3
      have := feas_I hk r _ (shI_mt hM (hk j (by omega)) (fOb_iff.mp g)) q hq
      exact ⟨this.1, by rw [List.length_cons, this.2]⟩
    · rw [if_neg g] at h3
      cases h3
theorem feaU_I {w n nk l : Nat} {ks kn : Nat → Int} {P : sM} (hk : ∀ k, k < nk → 0 ≤ ks k ∧ ks k ≤ 3) (hP : shI w n P) : ∀ p ∈ feaU w n ks kn nk P l, shI w n p.2 ∧ p.1.length ≤ l := by
  intro p hp
  unfold feaU at hp
  obtain ⟨j, _, h2, h3⟩ := catK_mem _ _ hp
  have := feas_I hk j P hP p h3
  exact ⟨this.1, by omega⟩
/-! how many are met -/
theorem hitB_met {row : List Nat} {trim val : Int} {B : bS} : (hitB row trim val B).1.2.2.2 = B.1.2.2.2 := hitB_1.2.1
theorem trB_met {aim : Int} {E : Int → Nat → Int} {row : List Nat} : ∀ (k : Nat) (tr : Int) (B : bS), (trB aim E row k tr B).1.2.2.2 = B.1.2.2.2
  | 0, tr, B => rfl
  | k + 1, tr, B => by
    unfold trB
    rw [trB_met k]
    split
    · exact hitB_met
    · rfl
theorem meB_met {n : Nat} {aim : Int} {E : Int → Int → Int → Nat → Int} {N M : sM} {row : List Nat} {B : bS} : (meB n aim E N M row B).1.2.2.2 = B.1.2.2.2 + 1 := by
  unfold meB
  split
  · rfl
  · split
    · split
      · exact hitB_met
      · rfl
    · split
      · split
        · exact hitB_met
        · rfl
      · unfold thB
        split
        · rw [trB_met]
        · rfl
theorem prB_met {n : Nat} {aim : Int} {E : Int → Int → Int → Nat → Int} {N : sM} : ∀ (L : List (List Nat × sM)) (B : bS), B.1.2.2.2 ≤ 5000 → (5000 < (L.foldl (prB n aim E N []) B).1.2.2.2 ↔ 5000 < B.1.2.2.2 + L.length) ∧ (B.1.2.2.2 + L.length ≤ 5000 → (L.foldl (prB n aim E N []) B).1.2.2.2 = B.1.2.2.2 + L.length)
  | [], B, h => by
    refine ⟨?_, fun _ => (Int.add_zero _).symm⟩
    show 5000 < B.1.2.2.2 ↔ 5000 < B.1.2.2.2 + ((0 : Nat) : Int)
    omega
  | p :: L, B, h => by
    have e : prB n aim E N [] B p = meB n aim E N p.2 p.1 B := by
      unfold prB
      rw [if_neg (by omega)]
      rfl
    rw [List.foldl_cons, e, List.length_cons]
    have hm : (meB n aim E N p.2 p.1 B).1.2.2.2 = B.1.2.2.2 + 1 := meB_met
    by_cases g : B.1.2.2.2 + 1 ≤ 5000
    · have ih := prB_met (n := n) (aim := aim) (E := E) (N := N) L (meB n aim E N p.2 p.1 B) (by omega)
      rw [hm] at ih
      push_cast
      refine ⟨?_, fun z => ?_⟩
      · rw [ih.1]
        omega
      · rw [ih.2 (by omega)]
        omega
    · rw [prB_spent (by omega)]
      push_cast
      refine ⟨⟨fun _ => by omega, fun _ => by omega⟩, fun z => by omega⟩
/-! the best: what flies alike is flown once -/
def mbv (aim : Int) (E : Nat → Int) : Int := if aim = 1 then E 4 else if aim = 0 ∨ E 5 = 1 then E 0 else -10000
def mbT (aim : Int) (E : Int → Nat → Int) (row : List Nat) : Nat → Int → Int × List Nat × Int → Int × List Nat × Int
  | 0, _, A => A
  | k + 1, tr, A => mbT aim E row k (tr + 1) (if mbv aim (E tr) ≤ A.1 then A else (mbv aim (E tr), row, tr))
def mbP (n : Nat) (aim : Int) (E : Int → Int → Int → Nat → Int) (A : Int × List Nat × Int) (p : List Nat × sM) : Int × List Nat × Int := mbT aim (E (nosM n p.2) (trn (winM n p.2))) p.1 7 (-3) A
def bRl (B : bS) (A : Int × List Nat × Int) : Prop := 0 ≤ B.1.1 ∧ (B.1.1 = 0 → A.1 = -10000) ∧ (B.1.1 ≠ 0 → A = (B.1.2.1, B.2.1, B.1.2.2.1) ∧ -10000 < A.1)
theorem trB_rel {aim : Int} {E : Int → Nat → Int} {row : List Nat} (ha : 0 ≤ aim ∧ aim ≤ 2) : ∀ (k : Nat) (tr : Int) (B : bS) (A : Int × List Nat × Int), (∀ t, tr ≤ t → t < tr + k → flB (E t)) → bRl B A →
    bRl (trB aim E row k tr B) (mbT aim E row k tr A) ∧ A.1 ≤ (mbT aim E row k tr A).1 ∧ (∀ t, tr ≤ t → t < tr + k → mbv aim (E t) ≤ (mbT aim E row k tr A).1) ∧ (trB aim E row k tr B).2.2 = B.2.2
  | 0, tr, B, A, hE, h => ⟨h, Int.le_refl _, fun t h1 h2 => by omega, rfl⟩
  | k + 1, tr, B, A, hE, h => by
    have hb := hE tr (Int.le_refl _) (by omega)
    obtain ⟨q4, q0, q1, q2, q3, q5⟩ := hb
    obtain ⟨h1, h2, h3⟩ := h
    have step : bRl (if aim ≠ 2 ∨ E tr 5 ≠ 0 then hitB row tr (if aim = 1 then E tr 4 else E tr 0) B else B) (if mbv aim (E tr) ≤ A.1 then A else (mbv aim (E tr), row, tr)) ∧ (if aim ≠ 2 ∨ E tr 5 ≠ 0 then hitB row tr (if aim = 1 then E tr 4 else E tr 0) B else B).2.2 = B.2.2 := by
      by_cases g : aim ≠ 2 ∨ E tr 5 ≠ 0
      · rw [if_pos g]
        have ev : mbv aim (E tr) = if aim = 1 then E tr 4 else E tr 0 := by
          unfold mbv
          by_cases g1 : aim = 1
          · rw [if_pos g1, if_pos g1]
          · rw [if_neg g1, if_neg g1, if_pos (by omega)]
        have hv : -10000 < mbv aim (E tr) := by
          rw [ev]
          split <;> omega
        rw [← ev]
        generalize mbv aim (E tr) = v at *
        refine ⟨?_, hitB_1.2.2⟩
        by_cases g2 : B.1.1 = 0
        · have hA := h2 g2
          rw [if_neg (by omega)]
          unfold hitB
          rw [if_pos (.inl g2)]
          exact ⟨by show 0 ≤ B.1.1 + 1; omega, fun z => by exfalso; change B.1.1 + 1 = 0 at z; omega, fun _ => ⟨rfl, hv⟩⟩
        · obtain ⟨hA, hA1⟩ := h3 g2
          by_cases g3 : v ≤ A.1
          · rw [if_pos g3]
            unfold hitB
            have : ¬ (B.1.1 = 0 ∨ B.1.2.1 < v) := by
              rw [hA] at g3
              change v ≤ B.1.2.1 at g3
              omega
            rw [if_neg this]
            exact ⟨by show 0 ≤ B.1.1 + 1; omega, fun z => by exfalso; change B.1.1 + 1 = 0 at z; omega, fun _ => ⟨hA, hA1⟩⟩
          · rw [if_neg g3]
            unfold hitB
            have : B.1.1 = 0 ∨ B.1.2.1 < v := by
              rw [hA] at g3
              change ¬ v ≤ B.1.2.1 at g3
              omega
            rw [if_pos this]
            exact ⟨by show 0 ≤ B.1.1 + 1; omega, fun z => by exfalso; change B.1.1 + 1 = 0 at z; omega, fun _ => ⟨rfl, hv⟩⟩
      · rw [if_neg g]
        have ev : mbv aim (E tr) = -10000 := by
          unfold mbv
          rw [if_neg (by omega), if_neg (by omega)]
        have : mbv aim (E tr) ≤ A.1 := by
          rw [ev]
          by_cases g2 : B.1.1 = 0
          · rw [h2 g2]
            omega
          · have := (h3 g2).2
            omega
        rw [if_pos this]
        exact ⟨⟨h1, h2, h3⟩, rfl⟩
    have ih := trB_rel (row := row) ha k (tr + 1) _ _ (fun t t1 t2 => hE t (by omega) (by omega)) step.1
    obtain ⟨i1, i2, i3, i4⟩ := ih
    unfold trB mbT
    refine ⟨i1, Int.le_trans ?_ i2, fun t t1 t2 => ?_, i4.trans step.2⟩
    · split
      · exact Int.le_refl _
      · show A.1 ≤ mbv aim (E tr)
        omega
    · by_cases e : t = tr
      · subst e
        refine Int.le_trans ?_ i2
        split
        · assumption
        · exact Int.le_refl _
      · exact i3 t (by omega) (by omega)
/-- what is kept of the search is what is kept of the enumeration -/
theorem best_rel {w n : Nat} {aim : Int} {E : Int → Int → Int → Nat → Int} {N : sM} (ha : 0 ≤ aim ∧ aim ≤ 2) (hE : ∀ no tu tr, 0 ≤ no → no ≤ 9 → -3 ≤ tr → tr ≤ 3 → flB (E no tu tr)) : ∀ (L : List (List Nat × sM)) (B : bS) (A : Int × List Nat × Int), (∀ p ∈ L, shI w n p.2) → B.1.2.2.2 + L.length ≤ 5000 → bRl B A →
    (∀ M, shI w n M → B.2.2 (kdM n M) ≠ 0 → ∀ tr, -3 ≤ tr → tr ≤ 3 → mbv aim (E (nosM n M) (trn (winM n M)) tr) ≤ A.1) → bRl (L.foldl (prB n aim E N []) B) (L.foldl (mbP n aim E) A)
  | [], B, A, _, _, h, _ => h
  | p :: L, B, A, hL, hm, h, hk => by
    rw [List.length_cons] at hm
    push_cast at hm
    have hI := hL p (List.mem_cons_self ..)
    have hno := nosM_r hI
    have e : prB n aim E N [] B p = thB n aim E p.2 p.1 ((B.1.1, B.1.2.1, B.1.2.2.1, B.1.2.2.2 + 1), B.2) := by
      unfold prB meB
      rw [if_neg (by omega), if_neg (by omega), if_neg (by omega), if_neg (by omega)]
      rfl
    have hmt : (prB n aim E N [] B p).1.2.2.2 = B.1.2.2.2 + 1 := by
      rw [show prB n aim E N [] B p = meB n aim E N p.2 p.1 B by unfold prB; rw [if_neg (by omega)]; rfl]
      exact meB_met
    rw [List.foldl_cons, List.foldl_cons]
    have rest := fun h' hk' => best_rel (w := w) (N := N) ha hE L (prB n aim E N [] B p) (mbP n aim E A p) (fun q hq => hL q (List.mem_cons_of_mem _ hq)) (by rw [hmt]; omega) h' hk'
    have hEb : ∀ t, -3 ≤ t → t < -3 + ((7 : Nat) : Int) → flB (E (nosM n p.2) (trn (winM n p.2)) t) := fun t t1 t2 => hE _ _ _ hno.1 hno.2 t1 (by omega)
    by_cases g : B.2.2 (kdM n p.2) = 0
    · have e2 : prB n aim E N [] B p = trB aim (E (nosM n p.2) (trn (winM n p.2))) p.1 7 (-3) ((B.1.1, B.1.2.1, B.1.2.2.1, B.1.2.2.2 + 1), B.2.1, upz B.2.2 (kdM n p.2) 1) := by
        rw [e]
        unfold thB
        exact if_pos g
      obtain ⟨r1, r2, r3, r4⟩ := trB_rel (row := p.1) ha 7 (-3) ((B.1.1, B.1.2.1, B.1.2.2.1, B.1.2.2.2 + 1), B.2.1, upz B.2.2 (kdM n p.2) 1) A hEb h
      refine rest (by rw [e2]; exact r1) (fun M hM hfl tr t1 t2 => ?_)
      rw [e2, r4] at hfl
      change upz B.2.2 (kdM n p.2) 1 (kdM n M) ≠ 0 at hfl
      by_cases ek : kdM n M = kdM n p.2
      · have k1 := kd_r hM
        have k2 := kd_r hI
        have n1 := nosM_r hM
        have t1' := trn_range (winM_r hM)
        have t2' := trn_range (winM_r hI)
        have eno : nosM n M = nosM n p.2 := by omega
        have etn : trn (winM n M) = trn (winM n p.2) := by omega
        rw [eno, etn]
        exact r3 tr t1 (by omega)
      · rw [upz_ne ek] at hfl
        exact Int.le_trans (hk M hM hfl tr t1 t2) r2
    · have e2 : prB n aim E N [] B p = ((B.1.1, B.1.2.1, B.1.2.2.1, B.1.2.2.2 + 1), B.2) := by
        rw [e]
        unfold thB
        exact if_neg g
      have hall := hk p.2 hI g
      have same : ∀ (k : Nat) (tr : Int), -3 ≤ tr → tr + k ≤ 4 → mbT aim (E (nosM n p.2) (trn (winM n p.2))) p.1 k tr A = A := by
        intro k
        induction k with
        | zero => intro tr _ _; rfl
        | succ k ih =>
          intro tr t1 t2
          unfold mbT
          rw [if_pos (hall tr t1 (by omega))]
          exact ih (tr + 1) (by omega) (by omega)
      have e3 : mbP n aim E A p = A := same 7 (-3) (by omega) (by decide)
      rw [e3] at rest ⊢
      refine rest (by rw [e2]; exact h) (fun M hM hfl => hk M hM (by rw [e2] at hfl; exact hfl))
/-! rows alike: how many, and the first -/
def mrP (n : Nat) (al : Int) (N : sM) (A : Int × List Nat) (p : List Nat × sM) : Int × List Nat := if (if al = 0 then samCb n p.2 N else samWb n p.2 N) = true then (A.1 + 1, if A.1 = 0 then p.1 else A.2) else A
def rRl (B : bS) (A : Int × List Nat) : Prop := 0 ≤ A.1 ∧ A.1 = B.1.1 ∧ (A.1 ≠ 0 → A.2 = B.2.1 ∧ B.1.2.1 = 0 ∧ B.1.2.2.1 = 0)
theorem rows_rel {n : Nat} {al : Int} {E : Int → Int → Int → Nat → Int} {N : sM} (ha : al = 0 ∨ al = 1) : ∀ (L : List (List Nat × sM)) (B : bS) (A : Int × List Nat), B.1.2.2.2 + L.length ≤ 5000 → rRl B A → rRl (L.foldl (prB n (3 + al) E N []) B) (L.foldl (mrP n al N) A)
  | [], B, A, _, h => h
  | p :: L, B, A, hm, h => by
    rw [List.length_cons] at hm
    push_cast at hm
    obtain ⟨h1, h2, h3⟩ := h
    have hmt : (prB n (3 + al) E N [] B p).1.2.2.2 = B.1.2.2.2 + 1 := by
      rw [show prB n (3 + al) E N [] B p = meB n (3 + al) E N p.2 p.1 B by unfold prB; rw [if_neg (by omega)]; rfl]
      exact meB_met
    rw [List.foldl_cons, List.foldl_cons]
    refine rows_rel ha L _ _ (by rw [hmt]; omega) ?_
    have e : prB n (3 + al) E N [] B p = if (if al = 0 then samCb n p.2 N else samWb n p.2 N) = true then hitB p.1 0 0 ((B.1.1, B.1.2.1, B.1.2.2.1, B.1.2.2.2 + 1), B.2) else ((B.1.1, B.1.2.1, B.1.2.2.1, B.1.2.2.2 + 1), B.2) := by
      unfold prB meB
      rcases ha with rfl | rfl
      · rw [if_neg (by omega), if_neg (by omega), if_pos (by decide), if_pos rfl]
        rfl
      · rw [if_neg (by omega), if_neg (by omega), if_neg (show ¬ (3 + 1 : Int) = 3 by decide), if_pos (show (3 + 1 : Int) = 4 by decide), if_neg (show ¬ (1 : Int) = 0 by decide)]
        rfl
    rw [e]
    unfold mrP
    generalize (if al = 0 then samCb n p.2 N else samWb n p.2 N) = same
    by_cases g : same = true
    · rw [if_pos g, if_pos g]
      unfold hitB
      by_cases g2 : A.1 = 0
      · rw [if_pos g2]
        have : (B.1.1 = 0 ∨ B.1.2.1 < 0) := by omega
        rw [if_pos this]
        exact ⟨by show 0 ≤ A.1 + 1; omega, by show A.1 + 1 = B.1.1 + 1; omega, fun _ => ⟨rfl, rfl, rfl⟩⟩
      · obtain ⟨q1, q2, q3⟩ := h3 g2
        rw [if_neg g2]
        have : ¬ (B.1.1 = 0 ∨ B.1.2.1 < 0) := by omega
        rw [if_neg this]
        exact ⟨by show 0 ≤ A.1 + 1; omega, by show A.1 + 1 = B.1.1 + 1; omega, fun _ => ⟨q1, q2, q3⟩⟩
    · rw [if_neg g, if_neg g]
      exact ⟨h1, h2, h3⟩
