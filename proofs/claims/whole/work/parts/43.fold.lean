/-! FOLDED: a sheet as numbers: (G, C): G 0 width 1 length 2 columns 3 lines 4 folds; C 1 back, 2 x, 3 y, 4 level, 5 crease beside, 6 crease below, by cell -/
abbrev sM : Type := (Nat → Int) × (Nat → Nat → Int)
/-- how many of the first n cells lie at a place -/
def cnt (X Y : Nat → Int) (x y : Int) : Nat → Int
  | 0 => 0
  | c + 1 => cnt X Y x y c + if X c = x ∧ Y c = y then 1 else 0
theorem cnt_r {X Y : Nat → Int} {x y : Int} : ∀ n : Nat, 0 ≤ cnt X Y x y n ∧ cnt X Y x y n ≤ n
  | 0 => ⟨Int.le_refl _, Int.le_refl _⟩
  | n + 1 => by
    have := cnt_r (X := X) (Y := Y) (x := x) (y := y) n
    unfold cnt
    split <;> omega
theorem cnt_congr {X Y X' Y' : Nat → Int} {x y x' y' : Int} : ∀ n : Nat, (∀ c, c < n → ((X c = x ∧ Y c = y) ↔ (X' c = x' ∧ Y' c = y'))) → cnt X Y x y n = cnt X' Y' x' y' n
  | 0, h => rfl
  | n + 1, h => by
    unfold cnt
    rw [cnt_congr n (fun c hc => h c (by omega))]
    congr 1
    by_cases g : X n = x ∧ Y n = y
    · rw [if_pos g, if_pos ((h n (by omega)).mp g)]
    · rw [if_neg g, if_neg (fun z => g ((h n (by omega)).mpr z))]
theorem cnt_le {X Y X' Y' : Nat → Int} {x y x' y' : Int} : ∀ n : Nat, (∀ c, c < n → ((X c = x ∧ Y c = y) → (X' c = x' ∧ Y' c = y'))) → cnt X Y x y n ≤ cnt X' Y' x' y' n
  | 0, h => Int.le_refl _
  | n + 1, h => by
    have := cnt_le n (fun c hc => h c (by omega))
    unfold cnt
    by_cases g : X n = x ∧ Y n = y
    · rw [if_pos g, if_pos (h n (by omega) g)]
      omega
    · rw [if_neg g]
      split <;> omega
theorem cnt_add {X Y A B : Nat → Int} {x y a b s t : Int} : ∀ n : Nat, (∀ c, c < n → ((X c = x ∧ Y c = y) ↔ ((A c = a ∧ B c = b) ∨ (A c = s ∧ B c = t)))) → (a ≠ s ∨ b ≠ t) → cnt X Y x y n = cnt A B a b n + cnt A B s t n
  | 0, h, hd => rfl
  | n + 1, h, hd => by
    have e := cnt_add n (fun c hc => h c (by omega)) hd
    have hn := h n (by omega)
    unfold cnt
    by_cases g1 : A n = a ∧ B n = b
    · have g2 : ¬ (A n = s ∧ B n = t) := fun z => by omega
      rw [if_pos g1, if_neg g2, if_pos (hn.mpr (.inl g1))]
      omega
    · by_cases g2 : A n = s ∧ B n = t
      · rw [if_neg g1, if_pos g2, if_pos (hn.mpr (.inr g2))]
        omega
      · rw [if_neg g1, if_neg g2, if_neg (fun z => (hn.mp z).elim g1 g2)]
        omega
theorem cnt_pos {X Y : Nat → Int} {x y : Int} : ∀ (n c : Nat), c < n → X c = x → Y c = y → 1 ≤ cnt X Y x y n
  | 0, c, h, _, _ => absurd h (Nat.not_lt_zero c)
  | n + 1, c, h, hx, hy => by
    unfold cnt
    have := cnt_r (X := X) (Y := Y) (x := x) (y := y) n
    by_cases e : c = n
    · subst e
      rw [if_pos ⟨hx, hy⟩]
      omega
    · have := cnt_pos n c (by omega) hx hy
      split <;> omega
/-- the fold: where its line is; what is turned over -/
def fEdge (G : Nat → Int) (sd m : Int) : Int := if sd = 0 ∨ sd = 2 then m else (if sd < 2 then G 2 else G 3) - m
def fP (C : Nat → Nat → Int) (sd : Int) (c : Nat) : Int := if sd < 2 then C 2 c else C 3 c
def fMv (M : sM) (sd m : Int) (c : Nat) : Prop := fP M.2 sd c < fEdge M.1 sd m ↔ (sd = 0 ∨ sd = 2)
def fX (M : sM) (sd m : Int) (c : Nat) : Int := if sd < 2 ∧ (fP M.2 sd c < fEdge M.1 sd m ↔ (sd = 0 ∨ sd = 2)) then 2 * fEdge M.1 sd m - 1 - M.2 2 c else M.2 2 c
def fY (M : sM) (sd m : Int) (c : Nat) : Int := if ¬ sd < 2 ∧ (fP M.2 sd c < fEdge M.1 sd m ↔ (sd = 0 ∨ sd = 2)) then 2 * fEdge M.1 sd m - 1 - M.2 3 c else M.2 3 c
/-- how far what is left is numbered anew -/
def fA (sd m : Int) : Int := if sd = 0 then m else 0
def fB (sd m : Int) : Int := if sd = 2 then m else 0
def mtG (M : sM) (sd m : Int) : Nat → Int := fun j => if j = 2 then (if sd < 2 then M.1 2 - m else M.1 2) else if j = 3 then (if sd < 2 then M.1 3 else M.1 3 - m) else if j = 4 then M.1 4 + 1 else M.1 j
def mtC (w n : Nat) (M : sM) (sd m : Int) : Nat → Nat → Int := fun k c =>
  if k = 1 then (if (fP M.2 sd c < fEdge M.1 sd m ↔ (sd = 0 ∨ sd = 2)) then 1 - M.2 1 c else M.2 1 c)
  else if k = 2 then fX M sd m c - fA sd m
  else if k = 3 then fY M sd m c - fB sd m
  else if k = 4 then (if (fP M.2 sd c < fEdge M.1 sd m ↔ (sd = 0 ∨ sd = 2)) then cnt (M.2 2) (M.2 3) (fX M sd m c) (fY M sd m c) n + (cnt (M.2 2) (M.2 3) (M.2 2 c) (M.2 3 c) n - 1 - M.2 4 c) else M.2 4 c)
  else if k = 5 then (if c % w + 1 < w ∧ ¬ ((fP M.2 sd c < fEdge M.1 sd m ↔ (sd = 0 ∨ sd = 2)) ↔ (fP M.2 sd (c + 1) < fEdge M.1 sd m ↔ (sd = 0 ∨ sd = 2))) then 10 * M.1 4 + (if M.2 1 c + M.2 1 (c + 1) = 0 then 1 else 2) else M.2 5 c)
  else (if c + w < n ∧ ¬ ((fP M.2 sd c < fEdge M.1 sd m ↔ (sd = 0 ∨ sd = 2)) ↔ (fP M.2 sd (c + w) < fEdge M.1 sd m ↔ (sd = 0 ∨ sd = 2))) then 10 * M.1 4 + (if M.2 1 c + M.2 1 (c + w) = 0 then 1 else 2) else M.2 6 c)
def mt (w n : Nat) (M : sM) (sd m : Int) : sM := (mtG M sd m, mtC w n M sd m)
def mp (W H : Int) : sM := (fun j => if j = 0 ∨ j = 2 then W else if j = 1 ∨ j = 3 then H else 0, fun k c => if k = 2 then ((c % W.toNat : Nat) : Int) else if k = 3 then ((c / W.toNat : Nat) : Int) else 0)
/-- a fold that can be -/
def fOk (M : sM) (sd m : Int) : Prop := 1 ≤ m ∧ 2 * m ≤ (if sd < 2 then M.1 2 else M.1 3)
/-- what holds of a sheet -/
def shI (w n : Nat) (M : sM) : Prop :=
  ((1 ≤ w ∧ w ≤ 8 ∧ M.1 0 = w) ∧ (1 ≤ M.1 1 ∧ M.1 1 ≤ 8 ∧ (n : Int) = M.1 0 * M.1 1 ∧ 1 ≤ n ∧ n ≤ 64) ∧ (1 ≤ M.1 2 ∧ M.1 2 ≤ 8) ∧ (1 ≤ M.1 3 ∧ M.1 3 ≤ 8) ∧ (0 ≤ M.1 4 ∧ M.1 2 + M.1 3 + M.1 4 ≤ M.1 0 + M.1 1)) ∧
  (∀ c, c < n → (0 ≤ M.2 2 c ∧ M.2 2 c < M.1 2) ∧ (0 ≤ M.2 3 c ∧ M.2 3 c < M.1 3) ∧ (0 ≤ M.2 1 c ∧ M.2 1 c ≤ 1) ∧ (0 ≤ M.2 4 c ∧ M.2 4 c < cnt (M.2 2) (M.2 3) (M.2 2 c) (M.2 3 c) n) ∧ (0 ≤ M.2 5 c ∧ M.2 5 c ≤ 10 * M.1 4) ∧ (0 ≤ M.2 6 c ∧ M.2 6 c ≤ 10 * M.1 4)) ∧
  (∀ c, c < n → c % w + 1 < w → (M.2 2 c = M.2 2 (c + 1) ∧ M.2 3 c = M.2 3 (c + 1)) ∨ (M.2 3 c = M.2 3 (c + 1) ∧ M.2 1 c = M.2 1 (c + 1) ∧ (M.2 2 (c + 1) = M.2 2 c + 1 ∨ M.2 2 (c + 1) = M.2 2 c - 1))) ∧
  (∀ c, c + w < n → (M.2 2 c = M.2 2 (c + w) ∧ M.2 3 c = M.2 3 (c + w)) ∨ (M.2 2 c = M.2 2 (c + w) ∧ M.2 1 c = M.2 1 (c + w) ∧ (M.2 3 (c + w) = M.2 3 c + 1 ∨ M.2 3 (c + w) = M.2 3 c - 1))) ∧
  (∀ c d, c < n → d < n → M.2 2 c = M.2 2 d → M.2 3 c = M.2 3 d → M.2 4 c = M.2 4 d → c = d)
/-- beside a cell that has one beside it there is one -/
theorem next_lt {w n c : Nat} {H : Int} (hw : 1 ≤ w) (hn : (n : Int) = (w : Int) * H) (hc : c < n) (h : c % w + 1 < w) : c + 1 < n := by
  obtain ⟨k, rfl⟩ : ∃ k : Nat, H = k := ⟨H.toNat, by
    have : 0 ≤ H := by
      rcases Int.le_total 0 H with h0 | h0
      · exact h0
      · have := Int.mul_nonpos_of_nonneg_of_nonpos (show (0 : Int) ≤ w by omega) h0
        omega
    omega⟩
  have hn' : n = w * k := by exact_mod_cast hn
  have e := Nat.div_add_mod c w
  have hd : c / w < k := by
    rw [Nat.div_lt_iff_lt_mul (by omega), Nat.mul_comm, ← hn']
    exact hc
  have : w * (c / w + 1) ≤ w * k := Nat.mul_le_mul_left w hd
  rw [Nat.mul_add] at this
  omega
/-- whether a cell is turned over -/
def mvP (M : sM) (sd m : Int) (c : Nat) : Prop := fP M.2 sd c < fEdge M.1 sd m ↔ (sd = 0 ∨ sd = 2)
theorem f_case {M : sM} {sd m : Int} (hd : 0 ≤ sd ∧ sd ≤ 3) (c : Nat) :
    (sd = 0 ∧ ((M.2 2 c < m ∧ mvP M sd m c ∧ fX M sd m c = 2 * m - 1 - M.2 2 c ∧ fY M sd m c = M.2 3 c) ∨ (m ≤ M.2 2 c ∧ ¬ mvP M sd m c ∧ fX M sd m c = M.2 2 c ∧ fY M sd m c = M.2 3 c))) ∨
    (sd = 1 ∧ ((M.1 2 - m ≤ M.2 2 c ∧ mvP M sd m c ∧ fX M sd m c = 2 * (M.1 2 - m) - 1 - M.2 2 c ∧ fY M sd m c = M.2 3 c) ∨ (M.2 2 c < M.1 2 - m ∧ ¬ mvP M sd m c ∧ fX M sd m c = M.2 2 c ∧ fY M sd m c = M.2 3 c))) ∨
    (sd = 2 ∧ ((M.2 3 c < m ∧ mvP M sd m c ∧ fX M sd m c = M.2 2 c ∧ fY M sd m c = 2 * m - 1 - M.2 3 c) ∨ (m ≤ M.2 3 c ∧ ¬ mvP M sd m c ∧ fX M sd m c = M.2 2 c ∧ fY M sd m c = M.2 3 c))) ∨
    (sd = 3 ∧ ((M.1 3 - m ≤ M.2 3 c ∧ mvP M sd m c ∧ fX M sd m c = M.2 2 c ∧ fY M sd m c = 2 * (M.1 3 - m) - 1 - M.2 3 c) ∨ (M.2 3 c < M.1 3 - m ∧ ¬ mvP M sd m c ∧ fX M sd m c = M.2 2 c ∧ fY M sd m c = M.2 3 c))) := by
  unfold mvP fX fY fP fEdge
  rcases (show sd = 0 ∨ sd = 1 ∨ sd = 2 ∨ sd = 3 by omega) with rfl | rfl | rfl | rfl
  · left
    refine ⟨rfl, ?_⟩
    by_cases h : M.2 2 c < m
    · left
      simp [h]
    · right
      simp [h]
      omega
  · right; left
    refine ⟨rfl, ?_⟩
    by_cases h : M.2 2 c < M.1 2 - m
    · right
      simp [h]
    · left
      simp [h]
      omega
  · right; right; left
    refine ⟨rfl, ?_⟩
    by_cases h : M.2 3 c < m
    · left
      simp [h]
    · right
      simp [h]
      omega
  · right; right; right
    refine ⟨rfl, ?_⟩
    by_cases h : M.2 3 c < M.1 3 - m
    · right
      simp [h]
    · left
      simp [h]
      omega
section FOLDL
variable {n : Nat} {X Y X1 Y1 L : Nat → Int} {mv : Nat → Prop}
theorem fl_cnt (F1 : ∀ c, c < n → ¬ mv c → X1 c = X c ∧ Y1 c = Y c) (F2 : ∀ c d, c < n → d < n → mv c → mv d → ((X1 c = X1 d ∧ Y1 c = Y1 d) ↔ (X c = X d ∧ Y c = Y d)))
    (F3 : ∀ c d, c < n → d < n → mv c → X d = X1 c → Y d = Y1 c → ¬ mv d) (F4 : ∀ c d, c < n → d < n → X c = X d → Y c = Y d → (mv c ↔ mv d)) {c : Nat} (hc : c < n) (hm : mv c) :
    cnt X1 Y1 (X1 c) (Y1 c) n = cnt X Y (X1 c) (Y1 c) n + cnt X Y (X c) (Y c) n := by
  refine cnt_add n (fun d hd => ?_) ?_
  · by_cases h : mv d
    · constructor
      · intro g
        exact .inr ((F2 d c hd hc h hm).mp g)
      · rintro (g | g)
        · exact absurd h (F3 c d hc hd hm g.1 g.2)
        · exact (F2 d c hd hc h hm).mpr g
    · have e := F1 d hd h
      constructor
      · intro g
        left
        rw [← e.1, ← e.2]
        exact g
      · rintro (g | g)
        · rw [e.1, e.2]
          exact g
        · exact absurd ((F4 c d hc hd g.1.symm g.2.symm).mp hm) h
  · by_cases h1 : X1 c = X c
    · by_cases h2 : Y1 c = Y c
      · exact absurd hm (F3 c c hc hc hm h1.symm h2.symm)
      · exact .inr h2
    · exact .inl h1
theorem fl_stay (F1 : ∀ c, c < n → ¬ mv c → X1 c = X c ∧ Y1 c = Y c) (F4 : ∀ c d, c < n → d < n → X c = X d → Y c = Y d → (mv c ↔ mv d)) {c : Nat} (hc : c < n) (hm : ¬ mv c) :
    cnt X Y (X c) (Y c) n ≤ cnt X1 Y1 (X1 c) (Y1 c) n := by
  have e0 := F1 c hc hm
  rw [e0.1, e0.2]
  refine cnt_le n (fun d hd g => ?_)
  have h : ¬ mv d := fun z => hm ((F4 c d hc hd g.1.symm g.2.symm).mpr z)
  have e := F1 d hd h
  rw [e.1, e.2]
  exact g
end FOLDL
theorem shI_mt {w n : Nat} {M : sM} {sd m : Int} (hI : shI w n M) (hd : 0 ≤ sd ∧ sd ≤ 3) (hf : fOk M sd m) : shI w n (mt w n M sd m) := by
  obtain ⟨⟨⟨w1, w8, hw⟩, ⟨hh1, hh8, hn, n1, n64⟩, ⟨c1, c8⟩, ⟨l1, l8⟩, f0, f14⟩, hc, hr, hb, hi⟩ := hI
  obtain ⟨m1, m2⟩ := hf
  have fc := fun c => f_case (M := M) (m := m) hd c
  have F1 : ∀ c, c < n → ¬ mvP M sd m c → fX M sd m c = M.2 2 c ∧ fY M sd m c = M.2 3 c := by
    intro c h1 h2
    rcases fc c with ⟨-, h | h⟩ | ⟨-, h | h⟩ | ⟨-, h | h⟩ | ⟨-, h | h⟩
    all_goals first
      | exact absurd h.2.1 h2
      | exact h.2.2
  have F2 : ∀ c d, c < n → d < n → mvP M sd m c → mvP M sd m d → ((fX M sd m c = fX M sd m d ∧ fY M sd m c = fY M sd m d) ↔ (M.2 2 c = M.2 2 d ∧ M.2 3 c = M.2 3 d)) := by
    intro c d h1 h2 h3 h4
    rcases fc c with ⟨e, h | h⟩ | ⟨e, h | h⟩ | ⟨e, h | h⟩ | ⟨e, h | h⟩ <;> rcases fc d with ⟨e', g | g⟩ | ⟨e', g | g⟩ | ⟨e', g | g⟩ | ⟨e', g | g⟩
    all_goals first
      | (exfalso; omega)
      | exact absurd h3 h.2.1
      | exact absurd h4 g.2.1
      | (constructor <;> intro z <;> constructor <;> omega)
  have F3 : ∀ c d, c < n → d < n → mvP M sd m c → M.2 2 d = fX M sd m c → M.2 3 d = fY M sd m c → ¬ mvP M sd m d := by
    intro c d h1 h2 h3 h4 h5
    have hc1 := hc c h1
    have hc2 := hc d h2
    rcases fc d with ⟨e, g | g⟩ | ⟨e, g | g⟩ | ⟨e, g | g⟩ | ⟨e, g | g⟩
    all_goals first
      | exact g.2.1
      | (exfalso
         rcases fc c with ⟨e', h | h⟩ | ⟨e', h | h⟩ | ⟨e', h | h⟩ | ⟨e', h | h⟩
         all_goals first
           | exact absurd h3 h.2.1
           | omega)
  have F4 : ∀ c d, c < n → d < n → M.2 2 c = M.2 2 d → M.2 3 c = M.2 3 d → (mvP M sd m c ↔ mvP M sd m d) := by
    intro c d h1 h2 h3 h4
    rcases fc c with ⟨e, h | h⟩ | ⟨e, h | h⟩ | ⟨e, h | h⟩ | ⟨e, h | h⟩ <;> rcases fc d with ⟨e', g | g⟩ | ⟨e', g | g⟩ | ⟨e', g | g⟩ | ⟨e', g | g⟩
    all_goals first
      | (exfalso; omega)
      | exact ⟨fun _ => g.2.1, fun _ => h.2.1⟩
      | exact ⟨fun z => absurd z h.2.1, fun z => absurd z g.2.1⟩
  have sh : ∀ c, cnt (mtC w n M sd m 2) (mtC w n M sd m 3) (mtC w n M sd m 2 c) (mtC w n M sd m 3 c) n = cnt (fX M sd m) (fY M sd m) (fX M sd m c) (fY M sd m c) n := by
    intro c
    refine cnt_congr n (fun d hd => ?_)
    change (fX M sd m d - fA sd m = fX M sd m c - fA sd m ∧ fY M sd m d - fB sd m = fY M sd m c - fB sd m) ↔ _
    omega
  have L4 : ∀ c, c < n → (mvP M sd m c ∧ mtC w n M sd m 4 c = cnt (M.2 2) (M.2 3) (fX M sd m c) (fY M sd m c) n + (cnt (M.2 2) (M.2 3) (M.2 2 c) (M.2 3 c) n - 1 - M.2 4 c)) ∨ (¬ mvP M sd m c ∧ mtC w n M sd m 4 c = M.2 4 c) := by
    intro c hcn
    by_cases h : mvP M sd m c
    · exact .inl ⟨h, if_pos h⟩
    · exact .inr ⟨h, if_neg h⟩
  have L1 : ∀ c, (mvP M sd m c ∧ mtC w n M sd m 1 c = 1 - M.2 1 c) ∨ (¬ mvP M sd m c ∧ mtC w n M sd m 1 c = M.2 1 c) := by
    intro c
    by_cases h : mvP M sd m c
    · exact .inl ⟨h, if_pos h⟩
    · exact .inr ⟨h, if_neg h⟩
  have e2 : ∀ c, mtC w n M sd m 2 c = fX M sd m c - fA sd m := fun c => rfl
  have e3 : ∀ c, mtC w n M sd m 3 c = fY M sd m c - fB sd m := fun c => rfl
  have g0 : mtG M sd m 0 = M.1 0 := rfl
  have g1 : mtG M sd m 1 = M.1 1 := rfl
  have g2 : mtG M sd m 2 = if sd < 2 then M.1 2 - m else M.1 2 := rfl
  have g3 : mtG M sd m 3 = if sd < 2 then M.1 3 else M.1 3 - m := rfl
  have g4 : mtG M sd m 4 = M.1 4 + 1 := rfl
  refine ⟨⟨⟨w1, w8, hw⟩, ⟨hh1, hh8, hn, n1, n64⟩, ?_, ?_, ?_⟩, ?_, ?_, ?_, ?_⟩
  · change 1 ≤ mtG M sd m 2 ∧ mtG M sd m 2 ≤ 8
    rw [g2]
    by_cases h : sd < 2
    · rw [if_pos h] at m2 ⊢
      omega
    · rw [if_neg h] at m2 ⊢
      omega
  · change 1 ≤ mtG M sd m 3 ∧ mtG M sd m 3 ≤ 8
    rw [g3]
    by_cases h : sd < 2
    · rw [if_pos h] at m2 ⊢
      omega
    · rw [if_neg h] at m2 ⊢
      omega
  · change 0 ≤ mtG M sd m 4 ∧ mtG M sd m 2 + mtG M sd m 3 + mtG M sd m 4 ≤ mtG M sd m 0 + mtG M sd m 1
    rw [g0, g1, g2, g3, g4]
    by_cases h : sd < 2
    · rw [if_pos h] at m2 ⊢
      rw [if_pos h]
      omega
    · rw [if_neg h] at m2 ⊢
      rw [if_neg h]
      omega
  · intro c hcn
    obtain ⟨x0, y0, b0, v0, r0, d0⟩ := hc c hcn
    refine ⟨?_, ?_, ?_, ?_, ?_, ?_⟩
    · change 0 ≤ mtC w n M sd m 2 c ∧ mtC w n M sd m 2 c < mtG M sd m 2
      rw [e2, g2]
      unfold fA
      rcases fc c with ⟨e, h | h⟩ | ⟨e, h | h⟩ | ⟨e, h | h⟩ | ⟨e, h | h⟩ <;> subst e <;> simp at m2 ⊢ <;> omega
    · change 0 ≤ mtC w n M sd m 3 c ∧ mtC w n M sd m 3 c < mtG M sd m 3
      rw [e3, g3]
      unfold fB
      rcases fc c with ⟨e, h | h⟩ | ⟨e, h | h⟩ | ⟨e, h | h⟩ | ⟨e, h | h⟩ <;> subst e <;> simp at m2 ⊢ <;> omega
    · change 0 ≤ mtC w n M sd m 1 c ∧ mtC w n M sd m 1 c ≤ 1
      rcases L1 c with ⟨-, e⟩ | ⟨-, e⟩ <;> rw [e] <;> omega
    · change 0 ≤ mtC w n M sd m 4 c ∧ mtC w n M sd m 4 c < cnt (mtC w n M sd m 2) (mtC w n M sd m 3) (mtC w n M sd m 2 c) (mtC w n M sd m 3 c) n
      rw [sh c]
      rcases L4 c hcn with ⟨h, e⟩ | ⟨h, e⟩
      · rw [e, fl_cnt F1 F2 F3 F4 hcn h]
        have := cnt_r (X := M.2 2) (Y := M.2 3) (x := fX M sd m c) (y := fY M sd m c) n
        omega
      · rw [e]
        have := fl_stay F1 F4 hcn h
        omega
    · change 0 ≤ mtC w n M sd m 5 c ∧ mtC w n M sd m 5 c ≤ 10 * (M.1 4 + 1)
      change 0 ≤ (if c % w + 1 < w ∧ _ then 10 * M.1 4 + (if M.2 1 c + M.2 1 (c + 1) = 0 then 1 else 2) else M.2 5 c) ∧ (if c % w + 1 < w ∧ _ then 10 * M.1 4 + (if M.2 1 c + M.2 1 (c + 1) = 0 then 1 else 2) else M.2 5 c) ≤ _
      split
      · split <;> omega
      · omega
    · change 0 ≤ mtC w n M sd m 6 c ∧ mtC w n M sd m 6 c ≤ 10 * (M.1 4 + 1)
      change 0 ≤ (if c + w < n ∧ _ then 10 * M.1 4 + (if M.2 1 c + M.2 1 (c + w) = 0 then 1 else 2) else M.2 6 c) ∧ (if c + w < n ∧ _ then 10 * M.1 4 + (if M.2 1 c + M.2 1 (c + w) = 0 then 1 else 2) else M.2 6 c) ≤ _
      split
      · split <;> omega
      · omega
  · intro c hcn hcw
    have hc1 := next_lt (by omega) (by rw [hn, hw]) hcn hcw
    change (mtC w n M sd m 2 c = mtC w n M sd m 2 (c + 1) ∧ mtC w n M sd m 3 c = mtC w n M sd m 3 (c + 1)) ∨ (mtC w n M sd m 3 c = mtC w n M sd m 3 (c + 1) ∧ mtC w n M sd m 1 c = mtC w n M sd m 1 (c + 1) ∧ (mtC w n M sd m 2 (c + 1) = mtC w n M sd m 2 c + 1 ∨ mtC w n M sd m 2 (c + 1) = mtC w n M sd m 2 c - 1))
    rw [e2, e2, e3, e3]
    have q := hr c hcn hcw
    have a1 := L1 c
    have a2 := L1 (c + 1)
    rcases fc c with ⟨e, h | h⟩ | ⟨e, h | h⟩ | ⟨e, h | h⟩ | ⟨e, h | h⟩ <;> rcases fc (c + 1) with ⟨e', g | g⟩ | ⟨e', g | g⟩ | ⟨e', g | g⟩ | ⟨e', g | g⟩
    all_goals first
      | omega
      | (rcases a1 with ⟨k, a1⟩ | ⟨k, a1⟩ <;> rcases a2 with ⟨k', a2⟩ | ⟨k', a2⟩ <;> first
          | exact absurd h.2.1 k
          | exact absurd k h.2.1
          | exact absurd g.2.1 k'
          | exact absurd k' g.2.1
          | omega)
  · intro c hcw
    change (mtC w n M sd m 2 c = mtC w n M sd m 2 (c + w) ∧ mtC w n M sd m 3 c = mtC w n M sd m 3 (c + w)) ∨ (mtC w n M sd m 2 c = mtC w n M sd m 2 (c + w) ∧ mtC w n M sd m 1 c = mtC w n M sd m 1 (c + w) ∧ (mtC w n M sd m 3 (c + w) = mtC w n M sd m 3 c + 1 ∨ mtC w n M sd m 3 (c + w) = mtC w n M sd m 3 c - 1))
    rw [e2, e2, e3, e3]
    have q := hb c hcw
    have a1 := L1 c
    have a2 := L1 (c + w)
    rcases fc c with ⟨e, h | h⟩ | ⟨e, h | h⟩ | ⟨e, h | h⟩ | ⟨e, h | h⟩ <;> rcases fc (c + w) with ⟨e', g | g⟩ | ⟨e', g | g⟩ | ⟨e', g | g⟩ | ⟨e', g | g⟩
    all_goals first
      | omega
      | (rcases a1 with ⟨k, a1⟩ | ⟨k, a1⟩ <;> rcases a2 with ⟨k', a2⟩ | ⟨k', a2⟩ <;> first
          | exact absurd h.2.1 k
          | exact absurd k h.2.1
          | exact absurd g.2.1 k'
          | exact absurd k' g.2.1
          | omega)
  · intro c d hcn hdn hx hy hl
    replace hx : fX M sd m c - fA sd m = fX M sd m d - fA sd m := hx
    replace hy : fY M sd m c - fB sd m = fY M sd m d - fB sd m := hy
    replace hl : mtC w n M sd m 4 c = mtC w n M sd m 4 d := hl
    have hx' : fX M sd m c = fX M sd m d := by omega
    have hy' : fY M sd m c = fY M sd m d := by omega
    have v1 := (hc c hcn).2.2.2.1
    have v2 := (hc d hdn).2.2.2.1
    rcases L4 c hcn with ⟨h, e⟩ | ⟨h, e⟩ <;> rcases L4 d hdn with ⟨g, e'⟩ | ⟨g, e'⟩
    · have p := (F2 c d hcn hdn h g).mp ⟨hx', hy'⟩
      rw [e, e', hx', hy', p.1, p.2] at hl
      exact hi c d hcn hdn p.1 p.2 (by omega)
    · exfalso
      have p := F1 d hdn g
      rw [e, e', hx', hy', p.1, p.2] at hl
      omega
    · exfalso
      have p := F1 c hcn h
      rw [e, e', ← hx', ← hy', p.1, p.2] at hl
      omega
    · have p := F1 c hcn h
      have p' := F1 d hdn g
      exact hi c d hcn hdn (by omega) (by omega) (by omega)
