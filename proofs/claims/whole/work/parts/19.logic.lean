/-! THE PURE LOGIC: a run of the pure machine to its end, and what then holds -/
theorem px_mono {ins : Nat → Nat → Option pm_S} : ∀ (n d mi pc : Nat) (ls st : List Value) (h : pm_H) (r : pm_O × pm_H), pm_go ins n d mi pc ls st h = some r → ∀ k j, pm_go ins (n + k) (d + j) mi pc ls st h = some r := by
  intro n
  induction n with
  | zero => intro d mi pc ls st h r hg; cases hg
  | succ n ih =>
    intro d mi pc ls st h r hg k j
    rw [show n + 1 + k = (n + k) + 1 by omega]
    unfold pm_go at hg ⊢
    cases hi : ins mi pc with
    | none => rw [hi] at hg; cases hg
    | some f =>
      rw [hi] at hg
      dsimp only at hg ⊢
      cases hf : f ls st h with
      | none => rw [hf] at hg; cases hg
      | some q =>
        rw [hf] at hg
        cases q with
        | inl g =>
          dsimp only at hg ⊢
          exact ih _ _ _ _ _ _ _ hg k j
        | inr q =>
          cases q with
          | inr e => exact hg
          | inl c =>
            dsimp only at hg ⊢
            cases d with
            | zero => cases hg
            | succ d' =>
              rw [show d' + 1 + j = (d' + j) + 1 by omega]
              dsimp only at hg ⊢
              cases hc : pm_go ins n d' c.1 0 c.2.1 [] c.2.2.2.2 with
              | none => rw [hc] at hg; cases hg
              | some e =>
                rw [ih _ _ _ _ _ _ _ hc k j]
                rw [hc] at hg
                obtain ⟨o, h1⟩ := e
                cases o with
                | inl v =>
                  dsimp only at hg ⊢
                  have := ih _ _ _ _ _ _ _ hg k j
                  rw [show d' + 1 + j = (d' + j) + 1 by omega] at this
                  exact this
                | inr E =>
                  dsimp only at hg ⊢
                  cases hE : c.2.2.2.1 E with
                  | none => rw [hE] at hg; exact hg
                  | some q =>
                    rw [hE] at hg
                    dsimp only at hg ⊢
                    have := ih _ _ _ _ _ _ _ hg k j
                    rw [show d' + 1 + j = (d' + j) + 1 by omega] at this
                    exact this
theorem px_det {ins : Nat → Nat → Option pm_S} {n n' d d' mi pc : Nat} {ls st : List Value} {h : pm_H} {r r' : pm_O × pm_H} (h1 : pm_go ins n d mi pc ls st h = some r) (h2 : pm_go ins n' d' mi pc ls st h = some r') : r = r' := by
  have a := px_mono _ _ _ _ _ _ _ _ h1 n' d'
  have b := px_mono _ _ _ _ _ _ _ _ h2 n d
  rw [Nat.add_comm n' n, Nat.add_comm d' d] at b
  rw [a] at b
  exact Option.some.inj b
/-- from here the method (at depth d) comes to an end at which Q holds -/
def px_Ev (d mi pc : Nat) (ls st : List Value) (h : pm_H) (Q : pm_O → pm_H → Prop) : Prop := ∃ (n : Nat) (o : pm_O) (h' : pm_H), pm_go pi_ins n d mi pc ls st h = some (o, h') ∧ Q o h'
/-- a method called with these locals ends so -/
def px_R (d tm : Nat) (ls : List Value) (h : pm_H) (o : pm_O) (h' : pm_H) : Prop := ∃ n : Nat, pm_go pi_ins n d tm 0 ls [] h = some (o, h')
theorem px_of {d tm : Nat} {ls : List Value} {h h' : pm_H} {o : pm_O} (k : px_Ev d tm 0 ls [] h (fun o1 h1 => o1 = o ∧ h1 = h')) : px_R d tm ls h o h' := by
  obtain ⟨n, o1, h1, hg, rfl, rfl⟩ := k
  exact ⟨n, hg⟩
theorem px_ofEx {d tm : Nat} {ls : List Value} {h : pm_H} {Q : pm_O → pm_H → Prop} (k : px_Ev d tm 0 ls [] h Q) : ∃ o h', px_R d tm ls h o h' ∧ Q o h' := by
  obtain ⟨n, o1, h1, hg, hq⟩ := k
  exact ⟨o1, h1, ⟨n, hg⟩, hq⟩
theorem px_post {d mi pc : Nat} {ls st : List Value} {h : pm_H} {Q Q' : pm_O → pm_H → Prop} (k : px_Ev d mi pc ls st h Q) (hQ : ∀ o h', Q o h' → Q' o h') : px_Ev d mi pc ls st h Q' := by
  obtain ⟨n, o1, h1, hg, hq⟩ := k
  exact ⟨n, o1, h1, hg, hQ _ _ hq⟩
section PX
variable {d mi pc : Nat} {ls st : List Value} {h : pm_H} {Q : pm_O → pm_H → Prop} {f : pm_S}
theorem px_next {g : pm_F} (hi : pi_ins mi pc = some f) (hf : f ls st h = some (.inl g)) : px_Ev d mi pc ls st h Q = px_Ev d mi g.1 g.2.1 g.2.2.1 g.2.2.2 Q := by
  apply propext
  constructor
  · rintro ⟨n, o, h', hg, hq⟩
    cases n with
    | zero => cases hg
    | succ n =>
      unfold pm_go at hg
      rw [hi] at hg
      dsimp only at hg
      rw [hf] at hg
      exact ⟨n, o, h', hg, hq⟩
  · rintro ⟨n, o, h', hg, hq⟩
    refine ⟨n + 1, o, h', ?_, hq⟩
    unfold pm_go
    rw [hi]
    dsimp only
    rw [hf]
    exact hg
theorem px_nx {nx : Nat} {ls1 st1 : List Value} {h1 : pm_H} (hi : pi_ins mi pc = some f) (hf : f ls st h = some (.inl (nx, ls1, st1, h1))) : px_Ev d mi pc ls st h Q = px_Ev d mi nx ls1 st1 h1 Q := px_next (g := (nx, ls1, st1, h1)) hi hf
theorem px_fin {r : pm_O × pm_H} (hi : pi_ins mi pc = some f) (hf : f ls st h = some (.inr (.inr r))) : px_Ev d mi pc ls st h Q = Q r.1 r.2 := by
  apply propext
  constructor
  · rintro ⟨n, o, h', hg, hq⟩
    cases n with
    | zero => cases hg
    | succ n =>
      unfold pm_go at hg
      rw [hi] at hg
      dsimp only at hg
      rw [hf] at hg
      cases hg
      exact hq
  · intro hq
    refine ⟨1, r.1, r.2, ?_, hq⟩
    unfold pm_go
    rw [hi]
    dsimp only
    rw [hf]
theorem px_fn {o : pm_O} {h1 : pm_H} (hi : pi_ins mi pc = some f) (hf : f ls st h = some (.inr (.inr (o, h1)))) : px_Ev d mi pc ls st h Q = Q o h1 := px_fin (r := (o, h1)) hi hf
theorem px_call {tm nx k : Nat} {ls0 ls1 rest : List Value} {hd : String → Option (Nat × List Value)} {v : Option Value} {h' : pm_H} (hc : px_R k tm ls0 h (.inl v) h') (hk : k + 1 ≤ d) (hi : pi_ins mi pc = some f) (hf : f ls st h = some (.inr (.inl (tm, ls0, (nx, ls1, rest), hd, h)))) :
    px_Ev d mi pc ls st h Q = px_Ev d mi nx ls1 (v.toList ++ rest) h' Q := by
  obtain ⟨m, hm⟩ := hc
  obtain ⟨j, rfl⟩ : ∃ j, d = k + j + 1 := ⟨d - k - 1, by omega⟩
  apply propext
  constructor
  · rintro ⟨n, o, h2, hg, hq⟩
    cases n with
    | zero => cases hg
    | succ n =>
      unfold pm_go at hg
      rw [hi] at hg
      dsimp only at hg
      rw [hf] at hg
      dsimp only at hg
      cases hc : pm_go pi_ins n (k + j) tm 0 ls0 [] h with
      | none => rw [hc] at hg; cases hg
      | some e =>
        have := px_det hm hc
        subst this
        rw [hc] at hg
        exact ⟨n, o, h2, hg, hq⟩
  · rintro ⟨n, o, h2, hg, hq⟩
    refine ⟨m + n + 1, o, h2, ?_, hq⟩
    unfold pm_go
    rw [hi]
    dsimp only
    rw [hf]
    dsimp only
    rw [px_mono _ _ _ _ _ _ _ _ hm n j]
    dsimp only
    have := px_mono _ _ _ _ _ _ _ _ hg m 0
    rw [Nat.add_comm n m] at this
    exact this
/-- a callee that throws -/
theorem px_callX {tm nx k : Nat} {ls0 ls1 rest : List Value} {hd : String → Option (Nat × List Value)} {E : String} {h' : pm_H} (hc : px_R k tm ls0 h (.inr E) h') (hk : k + 1 ≤ d) (hi : pi_ins mi pc = some f) (hf : f ls st h = some (.inr (.inl (tm, ls0, (nx, ls1, rest), hd, h)))) :
    px_Ev d mi pc ls st h Q = (match hd E with
      | none => Q (.inr E) h'
      | some q => px_Ev d mi q.1 q.2 [] h' Q) := by
  obtain ⟨m, hm⟩ := hc
  obtain ⟨j, rfl⟩ : ∃ j, d = k + j + 1 := ⟨d - k - 1, by omega⟩
  apply propext
  constructor
  · rintro ⟨n, o, h2, hg, hq⟩
    cases n with
    | zero => cases hg
    | succ n =>
      unfold pm_go at hg
      rw [hi] at hg
      dsimp only at hg
      rw [hf] at hg
      dsimp only at hg
      cases hc : pm_go pi_ins n (k + j) tm 0 ls0 [] h with
      | none => rw [hc] at hg; cases hg
      | some e =>
        have := px_det hm hc
        subst this
        rw [hc] at hg
        dsimp only at hg
        cases hE : hd E with
        | none =>
          rw [hE] at hg
          cases hg
          exact hq
        | some q =>
          rw [hE] at hg
          exact ⟨n, o, h2, hg, hq⟩
  · intro hh
    cases hE : hd E with
    | none =>
      rw [hE] at hh
      refine ⟨m + 1, .inr E, h', ?_, hh⟩
      unfold pm_go
      rw [hi]
      dsimp only
      rw [hf]
      dsimp only
      have h0 := px_mono _ _ _ _ _ _ _ _ hm 0 j
      rw [Nat.add_zero] at h0
      rw [h0]
      dsimp only
      rw [hE]
    | some q =>
      rw [hE] at hh
      obtain ⟨n, o, h2, hg, hq⟩ := hh
      refine ⟨m + n + 1, o, h2, ?_, hq⟩
      unfold pm_go
      rw [hi]
      dsimp only
      rw [hf]
      dsimp only
      rw [px_mono _ _ _ _ _ _ _ _ hm n j]
      dsimp only
      rw [hE]
      dsimp only
      have := px_mono _ _ _ _ _ _ _ _ hg m 0
      rw [Nat.add_comm n m] at this
      exact this
end PX
/-! the rules, an equation each; ints as zI of integers -/
def zI (z : Int) : Int32 := Int32.ofInt z
theorem zI_toInt {z : Int} (h : -2147483648 ≤ z ∧ z ≤ 2147483647) : (zI z).toInt = z := by
  unfold zI
  rw [Int32.toInt_ofInt]
  rw [Int.bmod_def]
  have e : ((Int32.size : Nat) : Int) = 4294967296 := by decide
  simp only [show Int32.size = 4294967296 from rfl]
  split <;> omega
theorem zI_of (x : Int32) : zI x.toInt = x := by
  unfold zI
  exact Int32.ofInt_toInt x
theorem zI_add (a b : Int) : zI a + zI b = zI (a + b) := by
  unfold zI
  exact (Int32.ofInt_add a b).symm
theorem zI_sub (a b : Int) : zI a - zI b = zI (a - b) := by
  unfold zI
  exact (Int32.ofInt_sub a b).symm
theorem zI_mul (a b : Int) : zI a * zI b = zI (a * b) := by
  unfold zI
  exact (Int32.ofInt_mul a b).symm
theorem zI_neg (a : Int) : -zI a = zI (-a) := by
  unfold zI
  exact (Int32.ofInt_neg a).symm
theorem zI_lt {a b : Int} (h : (-2147483648 ≤ a ∧ a ≤ 2147483647) ∧ (-2147483648 ≤ b ∧ b ≤ 2147483647)) : zI a < zI b ↔ a < b := by
  rw [Int32.lt_iff_toInt_lt, zI_toInt h.1, zI_toInt h.2]
theorem zI_le {a b : Int} (h : (-2147483648 ≤ a ∧ a ≤ 2147483647) ∧ (-2147483648 ≤ b ∧ b ≤ 2147483647)) : zI a ≤ zI b ↔ a ≤ b := by
  rw [Int32.le_iff_toInt_le, zI_toInt h.1, zI_toInt h.2]
theorem zI_eq {a b : Int} (h : (-2147483648 ≤ a ∧ a ≤ 2147483647) ∧ (-2147483648 ≤ b ∧ b ≤ 2147483647)) : zI a = zI b ↔ a = b := by
  constructor
  · intro e
    have := congrArg Int32.toInt e
    rwa [zI_toInt h.1, zI_toInt h.2] at this
  · intro e
    rw [e]
theorem zI_0 : (0 : Int32) = zI 0 := by decide
theorem zI_nat {z : Int} (h : 0 ≤ z ∧ z ≤ 2147483647) : (zI z).toNatClampNeg = z.toNat := by
  show (zI z).toInt.toNat = _
  rw [zI_toInt (by omega)]
theorem zI_in {i : Int} {n : Nat} (h : 0 ≤ i ∧ i < n ∧ i ≤ 2147483647) : ps_in (zI i) n = true := by
  unfold ps_in
  rw [zI_toInt (by omega)]
  simp
  omega
def upz (f : Nat → Int) (k : Nat) (x : Int) : Nat → Int := fun j => if j = k then x else f j
theorem upz_zI (f : Nat → Int) (k : Nat) (x : Int) : upd (fun j => zI (f j)) k (zI x) = fun j => zI (upz f k x j) := by
  funext j
  unfold upd upz
  split <;> rfl
/-- an array of ints, of booleans, of chars -/
def aI (kd n : Nat) (f : Nat → Int) : pm_E := .inl (kd, n, .inl (fun j => zI (f j)))
def px_gf (o : Option pm_E) (ci k : Nat) (K : Value → Prop) : Prop := match o with
  | some (.inr (c, fs)) => if c = ci then (match fs[k]? with
    | some v => K v
    | none => False) else False
  | _ => False
def px_pf (o : Option pm_E) (ok : Value → Bool) (ci k : Nat) (v : Value) (K : pm_E → Prop) : Prop := match o with
  | some (.inr (c, fs)) => if c = ci ∧ k < fs.length ∧ ok v = true then K (.inr (ci, fs.set k v)) else False
  | _ => False
def px_al (o : Option pm_E) (kd : Nat) (i : Int32) (K : Value → Prop) : Prop := match o with
  | some (.inl (k, n, .inl f)) => if k = kd ∧ ps_in i n = true then K (.int (f i.toNatClampNeg)) else False
  | _ => False
def px_as (o : Option pm_E) (ok : Value → Bool) (kd : Nat) (i x : Int32) (K : pm_E → Prop) : Prop := match o with
  | some (.inl (k, n, .inl f)) => if k = kd ∧ ps_in i n = true ∧ ok (.int x) = true then K (.inl (kd, n, .inl (upd f i.toNatClampNeg x))) else False
  | _ => False
theorem px_al_aI {kd n : Nat} {f : Nat → Int} {i : Int} {K : Value → Prop} (h : 0 ≤ i ∧ i < n ∧ i ≤ 2147483647) : px_al (some (aI kd n f)) kd (zI i) K = K (.int (zI (f i.toNat))) := by
  unfold px_al aI
  dsimp only
  rw [if_pos ⟨rfl, zI_in h⟩, zI_nat (by omega)]
theorem px_as_aI {n : Nat} {f : Nat → Int} {i x : Int} {K : pm_E → Prop} (h : 0 ≤ i ∧ i < n ∧ i ≤ 2147483647) : px_as (some (aI 0 n f)) ps_okI 0 (zI i) (zI x) K = K (aI 0 n (upz f i.toNat x)) := by
  unfold px_as aI
  dsimp only
  rw [if_pos ⟨rfl, zI_in h, rfl⟩, zI_nat (by omega), upz_zI]
theorem px_as_aZ {n : Nat} {f : Nat → Int} {i x : Int} {K : pm_E → Prop} (h : (0 ≤ i ∧ i < n ∧ i ≤ 2147483647) ∧ (x = 0 ∨ x = 1)) : px_as (some (aI 1 n f)) ps_okZ 1 (zI i) (zI x) K = K (aI 1 n (upz f i.toNat x)) := by
  unfold px_as aI
  dsimp only
  rw [if_pos ⟨rfl, zI_in h.1, by rcases h.2 with rfl | rfl <;> decide⟩, zI_nat (by omega), upz_zI]
theorem px_as_aC {n : Nat} {f : Nat → Int} {i x : Int} {K : pm_E → Prop} (h : (0 ≤ i ∧ i < n ∧ i ≤ 2147483647) ∧ (0 ≤ x ∧ x < 65536)) : px_as (some (aI 2 n f)) ps_okC 2 (zI i) (zI x) K = K (aI 2 n (upz f i.toNat x)) := by
  unfold px_as aI
  dsimp only
  rw [if_pos ⟨rfl, zI_in h.1, by unfold ps_okC; dsimp only; rw [zI_toInt (by omega)]; simp; omega⟩, zI_nat (by omega), upz_zI]
section PR
variable {d mi pc nx : Nat} {ls st : List Value} {h : pm_H} {Q : pm_O → pm_H → Prop} {f : pm_S}
theorem px_stuck (hi : pi_ins mi pc = some f) (hf : f ls st h = none) : px_Ev d mi pc ls st h Q = False := by
  apply propext
  constructor
  · rintro ⟨n, o, h', hg, hq⟩
    cases n with
    | zero => cases hg
    | succ n =>
      unfold pm_go at hg
      rw [hi] at hg
      dsimp only at hg
      rw [hf] at hg
      cases hg
  · intro q
    cases q
theorem px_push {v : Int32} {z : Int} (hi : pi_ins mi pc = some (ps_push v nx)) (hv : v = zI z) : px_Ev d mi pc ls st h Q = px_Ev d mi nx ls (.int (zI z) :: st) h Q := by
  subst hv
  exact px_nx hi rfl
theorem px_iload {k : Nat} {x : Int32} (hi : pi_ins mi pc = some (ps_iload k nx)) (hl : ls[k]? = some (.int x)) : px_Ev d mi pc ls st h Q = px_Ev d mi nx ls (.int x :: st) h Q :=
  px_nx hi (by unfold ps_iload; rw [hl]; rfl)
theorem px_aload {k a : Nat} (hi : pi_ins mi pc = some (ps_aload k nx)) (hl : ls[k]? = some (.ref a)) : px_Ev d mi pc ls st h Q = px_Ev d mi nx ls (.ref a :: st) h Q :=
  px_nx hi (by unfold ps_aload; rw [hl]; rfl)
theorem px_istore {k : Nat} {x : Int32} (hi : pi_ins mi pc = some (ps_istore k nx)) : px_Ev d mi pc ls (.int x :: st) h Q = px_Ev d mi nx (ls.set k (.int x)) st h Q := px_nx hi rfl
theorem px_astore {k a : Nat} (hi : pi_ins mi pc = some (ps_astore k nx)) : px_Ev d mi pc ls (.ref a :: st) h Q = px_Ev d mi nx (ls.set k (.ref a)) st h Q := px_nx hi rfl
theorem px_iinc {k : Nat} {x : Int} {n : Int32} {z : Int} (hi : pi_ins mi pc = some (ps_iinc k n nx)) (hl : ls[k]? = some (.int (zI x))) (hv : n = zI z) : px_Ev d mi pc ls st h Q = px_Ev d mi nx (ls.set k (.int (zI (x + z)))) st h Q := by
  subst hv
  rw [← zI_add]
  exact px_nx hi (by unfold ps_iinc; rw [hl]; rfl)
theorem px_iadd {x y : Int} (hi : pi_ins mi pc = some (ps_bin (fun x y => x + y) nx)) : px_Ev d mi pc ls (.int (zI y) :: .int (zI x) :: st) h Q = px_Ev d mi nx ls (.int (zI (x + y)) :: st) h Q := by
  rw [← zI_add]
  exact px_nx hi rfl
theorem px_isub {x y : Int} (hi : pi_ins mi pc = some (ps_bin (fun x y => x - y) nx)) : px_Ev d mi pc ls (.int (zI y) :: .int (zI x) :: st) h Q = px_Ev d mi nx ls (.int (zI (x - y)) :: st) h Q := by
  rw [← zI_sub]
  exact px_nx hi rfl
theorem px_imul {x y : Int} (hi : pi_ins mi pc = some (ps_bin (fun x y => x * y) nx)) : px_Ev d mi pc ls (.int (zI y) :: .int (zI x) :: st) h Q = px_Ev d mi nx ls (.int (zI (x * y)) :: st) h Q := by
  rw [← zI_mul]
  exact px_nx hi rfl
theorem px_ineg {x : Int} (hi : pi_ins mi pc = some (ps_un (fun x => -x) nx)) : px_Ev d mi pc ls (.int (zI x) :: st) h Q = px_Ev d mi nx ls (.int (zI (-x)) :: st) h Q := by
  rw [← zI_neg]
  exact px_nx hi rfl
theorem px_bin {g : Int32 → Int32 → Int32} {x y : Int32} (hi : pi_ins mi pc = some (ps_bin g nx)) : px_Ev d mi pc ls (.int y :: .int x :: st) h Q = px_Ev d mi nx ls (.int (g x y) :: st) h Q := px_nx hi rfl
theorem px_un {g : Int32 → Int32} {x : Int32} (hi : pi_ins mi pc = some (ps_un g nx)) : px_Ev d mi pc ls (.int x :: st) h Q = px_Ev d mi nx ls (.int (g x) :: st) h Q := px_nx hi rfl
theorem px_div {x y : Int32} (hi : pi_ins mi pc = some (ps_div nx)) (hy : ¬ y = 0) : px_Ev d mi pc ls (.int y :: .int x :: st) h Q = px_Ev d mi nx ls (.int (x / y) :: st) h Q := px_nx hi (by simp only [ps_div]; rw [if_neg hy]; rfl)
theorem px_rem {x y : Int32} (hi : pi_ins mi pc = some (ps_rem nx)) (hy : ¬ y = 0) : px_Ev d mi pc ls (.int y :: .int x :: st) h Q = px_Ev d mi nx ls (.int (x - x / y * y) :: st) h Q := px_nx hi (by simp only [ps_rem]; rw [if_neg hy]; rfl)
theorem px_dup {v : Value} (hi : pi_ins mi pc = some (ps_dup nx)) (hv : v.category = 1) : px_Ev d mi pc ls (v :: st) h Q = px_Ev d mi nx ls (v :: v :: st) h Q := px_nx hi (by simp only [ps_dup]; rw [if_pos hv]; rfl)
theorem px_dup2 {v w : Value} (hi : pi_ins mi pc = some (ps_dup2 nx)) (hv : v.category = 1) (hw : w.category = 1) : px_Ev d mi pc ls (v :: w :: st) h Q = px_Ev d mi nx ls (v :: w :: v :: w :: st) h Q := px_nx hi (by simp only [ps_dup2]; rw [if_pos ⟨hv, hw⟩]; rfl)
theorem px_pop {v : Value} (hi : pi_ins mi pc = some (ps_pop nx)) (hv : v.category = 1) : px_Ev d mi pc ls (v :: st) h Q = px_Ev d mi nx ls st h Q := px_nx hi (by simp only [ps_pop]; rw [if_pos hv]; rfl)
theorem px_i2l {x : Int32} (hi : pi_ins mi pc = some (ps_i2l nx)) : px_Ev d mi pc ls (.int x :: st) h Q = px_Ev d mi nx ls (.long x.toInt64 :: st) h Q := px_nx hi rfl
theorem px_lcmp {x y : Int64} (hi : pi_ins mi pc = some (ps_lcmp nx)) : px_Ev d mi pc ls (.long y :: .long x :: st) h Q = px_Ev d mi nx ls (.int (lg_cmp x y) :: st) h Q := px_nx hi rfl
theorem px_goto {t : Nat} (hi : pi_ins mi pc = some (ps_goto t)) : px_Ev d mi pc ls st h Q = px_Ev d mi t ls st h Q := px_nx hi rfl
theorem px_nonnull {t a : Nat} (hi : pi_ins mi pc = some (ps_nonnull t)) : px_Ev d mi pc ls (.ref a :: st) h Q = px_Ev d mi t ls st h Q := px_nx hi rfl
theorem px_switch {g : Int32 → Nat} {x : Int32} (hi : pi_ins mi pc = some (ps_switch g)) : px_Ev d mi pc ls (.int x :: st) h Q = px_Ev d mi (g x) ls st h Q := px_nx hi rfl
theorem px_if {c : Int32 → Bool} {t : Nat} {x : Int32} {P : Prop} {_ : Decidable P} (hi : pi_ins mi pc = some (ps_if c t nx)) (hc : c x = true ↔ P) : px_Ev d mi pc ls (.int x :: st) h Q = if P then px_Ev d mi t ls st h Q else px_Ev d mi nx ls st h Q := by
  by_cases hp : P
  · rw [if_pos hp]
    exact px_nx hi (by simp only [ps_if]; rw [if_pos (hc.mpr hp)]; rfl)
  · rw [if_neg hp]
    exact px_nx hi (by simp only [ps_if]; rw [if_neg (fun z => hp (hc.mp z))]; rfl)
theorem px_icmp {c : Int32 → Int32 → Bool} {t : Nat} {x y : Int32} {P : Prop} {_ : Decidable P} (hi : pi_ins mi pc = some (ps_icmp c t nx)) (hc : c x y = true ↔ P) : px_Ev d mi pc ls (.int y :: .int x :: st) h Q = if P then px_Ev d mi t ls st h Q else px_Ev d mi nx ls st h Q := by
  by_cases hp : P
  · rw [if_pos hp]
    exact px_nx hi (by simp only [ps_icmp]; rw [if_pos (hc.mpr hp)]; rfl)
  · rw [if_neg hp]
    exact px_nx hi (by simp only [ps_icmp]; rw [if_neg (fun z => hp (hc.mp z))]; rfl)
theorem px_if_eq {t : Nat} {x : Int} (hi : pi_ins mi pc = some (ps_if (fun x => x == 0) t nx)) (hr : -2147483648 ≤ x ∧ x ≤ 2147483647) : px_Ev d mi pc ls (.int (zI x) :: st) h Q = if x = 0 then px_Ev d mi t ls st h Q else px_Ev d mi nx ls st h Q := px_if hi (by simp only [beq_iff_eq, bne_iff_ne, decide_eq_true_eq, zI_0, ne_eq]; rw [zI_eq ⟨hr, by omega⟩])
theorem px_if_ne {t : Nat} {x : Int} (hi : pi_ins mi pc = some (ps_if (fun x => x != 0) t nx)) (hr : -2147483648 ≤ x ∧ x ≤ 2147483647) : px_Ev d mi pc ls (.int (zI x) :: st) h Q = if x ≠ 0 then px_Ev d mi t ls st h Q else px_Ev d mi nx ls st h Q := px_if hi (by simp only [beq_iff_eq, bne_iff_ne, decide_eq_true_eq, zI_0, ne_eq]; rw [zI_eq ⟨hr, by omega⟩])
theorem px_if_lt {t : Nat} {x : Int} (hi : pi_ins mi pc = some (ps_if (fun x => decide (x < 0)) t nx)) (hr : -2147483648 ≤ x ∧ x ≤ 2147483647) : px_Ev d mi pc ls (.int (zI x) :: st) h Q = if x < 0 then px_Ev d mi t ls st h Q else px_Ev d mi nx ls st h Q := px_if hi (by simp only [beq_iff_eq, bne_iff_ne, decide_eq_true_eq, zI_0, ne_eq]; rw [zI_lt ⟨hr, by omega⟩])
theorem px_if_ge {t : Nat} {x : Int} (hi : pi_ins mi pc = some (ps_if (fun x => decide (0 ≤ x)) t nx)) (hr : -2147483648 ≤ x ∧ x ≤ 2147483647) : px_Ev d mi pc ls (.int (zI x) :: st) h Q = if 0 ≤ x then px_Ev d mi t ls st h Q else px_Ev d mi nx ls st h Q := px_if hi (by simp only [beq_iff_eq, bne_iff_ne, decide_eq_true_eq, zI_0, ne_eq]; rw [zI_le ⟨by omega, hr⟩])
theorem px_if_gt {t : Nat} {x : Int} (hi : pi_ins mi pc = some (ps_if (fun x => decide (0 < x)) t nx)) (hr : -2147483648 ≤ x ∧ x ≤ 2147483647) : px_Ev d mi pc ls (.int (zI x) :: st) h Q = if 0 < x then px_Ev d mi t ls st h Q else px_Ev d mi nx ls st h Q := px_if hi (by simp only [beq_iff_eq, bne_iff_ne, decide_eq_true_eq, zI_0, ne_eq]; rw [zI_lt ⟨by omega, hr⟩])
theorem px_if_le {t : Nat} {x : Int} (hi : pi_ins mi pc = some (ps_if (fun x => decide (x ≤ 0)) t nx)) (hr : -2147483648 ≤ x ∧ x ≤ 2147483647) : px_Ev d mi pc ls (.int (zI x) :: st) h Q = if x ≤ 0 then px_Ev d mi t ls st h Q else px_Ev d mi nx ls st h Q := px_if hi (by simp only [beq_iff_eq, bne_iff_ne, decide_eq_true_eq, zI_0, ne_eq]; rw [zI_le ⟨hr, by omega⟩])
theorem px_icmp_eq {t : Nat} {x y : Int} (hi : pi_ins mi pc = some (ps_icmp (fun x y => x == y) t nx)) (hr : (-2147483648 ≤ x ∧ x ≤ 2147483647) ∧ (-2147483648 ≤ y ∧ y ≤ 2147483647)) : px_Ev d mi pc ls (.int (zI y) :: .int (zI x) :: st) h Q = if x = y then px_Ev d mi t ls st h Q else px_Ev d mi nx ls st h Q := px_icmp hi (by simp only [beq_iff_eq, bne_iff_ne, decide_eq_true_eq, ne_eq]; rw [zI_eq hr])
theorem px_icmp_ne {t : Nat} {x y : Int} (hi : pi_ins mi pc = some (ps_icmp (fun x y => x != y) t nx)) (hr : (-2147483648 ≤ x ∧ x ≤ 2147483647) ∧ (-2147483648 ≤ y ∧ y ≤ 2147483647)) : px_Ev d mi pc ls (.int (zI y) :: .int (zI x) :: st) h Q = if x ≠ y then px_Ev d mi t ls st h Q else px_Ev d mi nx ls st h Q := px_icmp hi (by simp only [beq_iff_eq, bne_iff_ne, decide_eq_true_eq, ne_eq]; rw [zI_eq hr])
theorem px_icmp_lt {t : Nat} {x y : Int} (hi : pi_ins mi pc = some (ps_icmp (fun x y => decide (x < y)) t nx)) (hr : (-2147483648 ≤ x ∧ x ≤ 2147483647) ∧ (-2147483648 ≤ y ∧ y ≤ 2147483647)) : px_Ev d mi pc ls (.int (zI y) :: .int (zI x) :: st) h Q = if x < y then px_Ev d mi t ls st h Q else px_Ev d mi nx ls st h Q := px_icmp hi (by simp only [beq_iff_eq, bne_iff_ne, decide_eq_true_eq, ne_eq]; rw [zI_lt hr])
theorem px_icmp_ge {t : Nat} {x y : Int} (hi : pi_ins mi pc = some (ps_icmp (fun x y => decide (y ≤ x)) t nx)) (hr : (-2147483648 ≤ x ∧ x ≤ 2147483647) ∧ (-2147483648 ≤ y ∧ y ≤ 2147483647)) : px_Ev d mi pc ls (.int (zI y) :: .int (zI x) :: st) h Q = if y ≤ x then px_Ev d mi t ls st h Q else px_Ev d mi nx ls st h Q := px_icmp hi (by simp only [beq_iff_eq, bne_iff_ne, decide_eq_true_eq, ne_eq]; rw [zI_le ⟨hr.2, hr.1⟩])
theorem px_icmp_gt {t : Nat} {x y : Int} (hi : pi_ins mi pc = some (ps_icmp (fun x y => decide (y < x)) t nx)) (hr : (-2147483648 ≤ x ∧ x ≤ 2147483647) ∧ (-2147483648 ≤ y ∧ y ≤ 2147483647)) : px_Ev d mi pc ls (.int (zI y) :: .int (zI x) :: st) h Q = if y < x then px_Ev d mi t ls st h Q else px_Ev d mi nx ls st h Q := px_icmp hi (by simp only [beq_iff_eq, bne_iff_ne, decide_eq_true_eq, ne_eq]; rw [zI_lt ⟨hr.2, hr.1⟩])
theorem px_icmp_le {t : Nat} {x y : Int} (hi : pi_ins mi pc = some (ps_icmp (fun x y => decide (x ≤ y)) t nx)) (hr : (-2147483648 ≤ x ∧ x ≤ 2147483647) ∧ (-2147483648 ≤ y ∧ y ≤ 2147483647)) : px_Ev d mi pc ls (.int (zI y) :: .int (zI x) :: st) h Q = if x ≤ y then px_Ev d mi t ls st h Q else px_Ev d mi nx ls st h Q := px_icmp hi (by simp only [beq_iff_eq, bne_iff_ne, decide_eq_true_eq, ne_eq]; rw [zI_le hr])
theorem px_getf {ci k a : Nat} (hi : pi_ins mi pc = some (ps_getf ci k nx)) : px_Ev d mi pc ls (.ref a :: st) h Q = px_gf (h.1 a) ci k (fun v => px_Ev d mi nx ls (v :: st) h Q) := by
  cases ho : h.1 a with
  | none => exact px_stuck hi (by simp only [ps_getf]; rw [ho])
  | some e =>
    cases e with
    | inl q => exact px_stuck hi (by simp only [ps_getf]; rw [ho])
    | inr q =>
      obtain ⟨c, fs⟩ := q
      by_cases hc : c = ci
      · cases hv : fs[k]? with
        | none =>
          simp only [px_gf, if_pos hc, hv]
          exact px_stuck hi (by simp only [ps_getf, ho, if_pos hc, hv])
        | some v =>
          simp only [px_gf, if_pos hc, hv]
          exact px_nx hi (by simp only [ps_getf, ho, if_pos hc, hv]; rfl)
      · simp only [px_gf, if_neg hc]
        exact px_stuck hi (by simp only [ps_getf, ho, if_neg hc])
theorem px_putf {ok : Value → Bool} {ci k a : Nat} {v : Value} (hi : pi_ins mi pc = some (ps_putf ok ci k nx)) : px_Ev d mi pc ls (v :: .ref a :: st) h Q = px_pf (h.1 a) ok ci k v (fun e => px_Ev d mi nx ls st (pm_put h a e) Q) := by
  cases ho : h.1 a with
  | none => exact px_stuck hi (by simp only [ps_putf]; rw [ho])
  | some e =>
    cases e with
    | inl q => exact px_stuck hi (by simp only [ps_putf]; rw [ho])
    | inr q =>
      obtain ⟨c, fs⟩ := q
      by_cases hc : c = ci ∧ k < fs.length ∧ ok v = true
      · simp only [px_pf, if_pos hc]
        exact px_nx hi (by simp only [ps_putf, ho, if_pos hc]; rfl)
      · simp only [px_pf, if_neg hc]
        exact px_stuck hi (by simp only [ps_putf, ho, if_neg hc])
theorem px_ald {kd a : Nat} {i : Int32} (hi : pi_ins mi pc = some (ps_ald kd nx)) : px_Ev d mi pc ls (.int i :: .ref a :: st) h Q = px_al (h.1 a) kd i (fun v => px_Ev d mi nx ls (v :: st) h Q) := by
  cases ho : h.1 a with
  | none => exact px_stuck hi (by simp only [ps_ald]; rw [ho])
  | some e =>
    cases e with
    | inr q => exact px_stuck hi (by simp only [ps_ald]; rw [ho])
    | inl q =>
      obtain ⟨k, n, f⟩ := q
      cases f with
      | inr f => exact px_stuck hi (by simp only [ps_ald]; rw [ho])
      | inl f =>
        by_cases hc : k = kd ∧ ps_in i n = true
        · simp only [px_al, if_pos hc]
          exact px_nx hi (by simp only [ps_ald, ho, if_pos hc]; rfl)
        · simp only [px_al, if_neg hc]
          exact px_stuck hi (by simp only [ps_ald, ho, if_neg hc])
theorem px_ast {ok : Value → Bool} {kd a : Nat} {i x : Int32} (hi : pi_ins mi pc = some (ps_ast ok kd nx)) : px_Ev d mi pc ls (.int x :: .int i :: .ref a :: st) h Q = px_as (h.1 a) ok kd i x (fun e => px_Ev d mi nx ls st (pm_put h a e) Q) := by
  cases ho : h.1 a with
  | none => exact px_stuck hi (by simp only [ps_ast]; rw [ho])
  | some e =>
    cases e with
    | inr q => exact px_stuck hi (by simp only [ps_ast]; rw [ho])
    | inl q =>
      obtain ⟨k, n, f⟩ := q
      cases f with
      | inr f => exact px_stuck hi (by simp only [ps_ast]; rw [ho])
      | inl f =>
        by_cases hc : k = kd ∧ ps_in i n = true ∧ ok (.int x) = true
        · simp only [px_as, if_pos hc]
          exact px_nx hi (by simp only [ps_ast, ho, if_pos hc]; rfl)
        · simp only [px_as, if_neg hc]
          exact px_stuck hi (by simp only [ps_ast, ho, if_neg hc])
end PR
section PS
variable {d mi pc nx : Nat} {ls st : List Value} {h : pm_H} {Q : pm_O → pm_H → Prop} {f : pm_S}
def px_ln (o : Option pm_E) (K : Value → Prop) : Prop := match o with
  | some (.inl (k, n, _)) => if k < 7 then K (.int (Int32.ofNat n)) else False
  | _ => False
theorem px_ln_aI {kd n : Nat} {g : Nat → Int} {K : Value → Prop} (hk : kd < 7) : px_ln (some (aI kd n g)) K = K (.int (zI n)) := by
  unfold px_ln aI
  dsimp only
  rw [if_pos hk]
  rfl
theorem px_alen {a : Nat} (hi : pi_ins mi pc = some (ps_alen nx)) : px_Ev d mi pc ls (.ref a :: st) h Q = px_ln (h.1 a) (fun v => px_Ev d mi nx ls (v :: st) h Q) := by
  cases ho : h.1 a with
  | none => exact px_stuck hi (by simp only [ps_alen]; rw [ho])
  | some e =>
    cases e with
    | inr q => exact px_stuck hi (by simp only [ps_alen]; rw [ho])
    | inl q =>
      obtain ⟨k, n, g⟩ := q
      by_cases hc : k < 7
      · simp only [px_ln, if_pos hc]
        exact px_nx hi (by simp only [ps_alen, ho, if_pos hc]; rfl)
      · simp only [px_ln, if_neg hc]
        exact px_stuck hi (by simp only [ps_alen, ho, if_neg hc])
/-- an array of references -/
def aR (kd n : Nat) (g : Nat → Option Nat) : pm_E := .inl (kd, n, .inr (.inr (.inr (.inr g))))
def px_aa (o : Option pm_E) (i : Int32) (K : Value → Prop) : Prop := match o with
  | some (.inl (k, n, .inr (.inr (.inr (.inr g))))) => if 4 ≤ k ∧ k < 7 ∧ ps_in i n = true then K (va_rf (g i.toNatClampNeg)) else False
  | _ => False
theorem px_aa_aR {kd n a : Nat} {g : Nat → Option Nat} {i : Int} {K : Value → Prop} (hk : 4 ≤ kd ∧ kd < 7) (h : 0 ≤ i ∧ i < n ∧ i ≤ 2147483647) (hg : g i.toNat = some a) : px_aa (some (aR kd n g)) (zI i) K = K (.ref a) := by
  unfold px_aa aR
  dsimp only
  rw [if_pos ⟨hk.1, hk.2, zI_in h⟩, zI_nat (by omega), hg]
  rfl
theorem px_aald {a : Nat} {i : Int32} (hi : pi_ins mi pc = some (ps_aald nx)) : px_Ev d mi pc ls (.int i :: .ref a :: st) h Q = px_aa (h.1 a) i (fun v => px_Ev d mi nx ls (v :: st) h Q) := by
  cases ho : h.1 a with
  | none => exact px_stuck hi (by simp only [ps_aald]; rw [ho])
  | some e =>
    cases e with
    | inr q => exact px_stuck hi (by simp only [ps_aald]; rw [ho])
    | inl q =>
      obtain ⟨k, n, g⟩ := q
      cases g with
      | inl g => exact px_stuck hi (by simp only [ps_aald]; rw [ho])
      | inr g =>
        cases g with
        | inl g => exact px_stuck hi (by simp only [ps_aald]; rw [ho])
        | inr g =>
          cases g with
          | inl g => exact px_stuck hi (by simp only [ps_aald]; rw [ho])
          | inr g =>
            cases g with
            | inl g => exact px_stuck hi (by simp only [ps_aald]; rw [ho])
            | inr g =>
              by_cases hc : 4 ≤ k ∧ k < 7 ∧ ps_in i n = true
              · simp only [px_aa, if_pos hc]
                exact px_nx hi (by simp only [ps_aald, ho, if_pos hc]; rfl)
              · simp only [px_aa, if_neg hc]
                exact px_stuck hi (by simp only [ps_aald, ho, if_neg hc])
theorem px_new {ci : Nat} {fs : List Value} (hi : pi_ins mi pc = some (ps_new ci fs nx)) (hg : pm_gap h = 0) : px_Ev d mi pc ls st h Q = px_Ev d mi nx ls (.ref (pm_size h) :: st) (pm_new h (.inr (ci, fs)) fs.length) Q := px_nx hi (by simp only [ps_new, if_pos hg]; rfl)
theorem px_newa {kd : Nat} {n : Int} (hi : pi_ins mi pc = some (ps_newa kd nx)) (hk : kd < 3) (hg : pm_gap h = 0) (hn : 0 ≤ n ∧ n ≤ 1000) : px_Ev d mi pc ls (.int (zI n) :: st) h Q = px_Ev d mi nx ls (.ref (pm_size h) :: st) (pm_new h (aI kd n.toNat (fun _ => 0)) n.toNat) Q := by
  refine px_nx hi ?_
  simp only [ps_newa]
  rw [zI_toInt (by omega), if_pos ⟨hg, hn.1, hn.2⟩, zI_nat (by omega)]
  have : ps_zero kd = .inl (fun _ => zI 0) := by
    unfold ps_zero
    rw [if_pos hk]
    rfl
  rw [this]
  rfl
theorem px_max {x y : Int} (hi : pi_ins mi pc = some (ps_m2 (fun x y => if x < y then y else x) nx)) (hr : (-2147483648 ≤ x ∧ x ≤ 2147483647) ∧ (-2147483648 ≤ y ∧ y ≤ 2147483647)) (hl : ps_low st = true) : px_Ev d mi pc ls (.int (zI y) :: .int (zI x) :: st) h Q = px_Ev d mi nx ls (.int (zI (if x < y then y else x)) :: st) h Q := by
  refine px_nx hi ?_
  simp only [ps_m2, if_pos hl]
  by_cases hx : x < y
  · rw [if_pos ((zI_lt hr).mpr hx), if_pos hx]
    rfl
  · rw [if_neg (fun z => hx ((zI_lt hr).mp z)), if_neg hx]
    rfl
theorem px_min {x y : Int} (hi : pi_ins mi pc = some (ps_m2 (fun x y => if y < x then y else x) nx)) (hr : (-2147483648 ≤ x ∧ x ≤ 2147483647) ∧ (-2147483648 ≤ y ∧ y ≤ 2147483647)) (hl : ps_low st = true) : px_Ev d mi pc ls (.int (zI y) :: .int (zI x) :: st) h Q = px_Ev d mi nx ls (.int (zI (if y < x then y else x)) :: st) h Q := by
  refine px_nx hi ?_
  simp only [ps_m2, if_pos hl]
  by_cases hx : y < x
  · rw [if_pos ((zI_lt ⟨hr.2, hr.1⟩).mpr hx), if_pos hx]
    rfl
  · rw [if_neg (fun z => hx ((zI_lt ⟨hr.2, hr.1⟩).mp z)), if_neg hx]
    rfl
theorem px_abs {x : Int} (hi : pi_ins mi pc = some (ps_m1 (fun x => if 0 ≤ x then x else 0 - x) nx)) (hr : -2147483648 ≤ x ∧ x ≤ 2147483647) (hl : ps_low st = true) : px_Ev d mi pc ls (.int (zI x) :: st) h Q = px_Ev d mi nx ls (.int (zI (if 0 ≤ x then x else -x)) :: st) h Q := by
  refine px_nx hi ?_
  simp only [ps_m1, if_pos hl]
  have h0 : (0 : Int32) ≤ zI x ↔ 0 ≤ x := by rw [zI_0]; exact zI_le ⟨by omega, hr⟩
  by_cases hx : 0 ≤ x
  · rw [if_pos (h0.mpr hx), if_pos hx]
    rfl
  · rw [if_neg (fun z => hx (h0.mp z)), if_neg hx, zI_0, zI_sub, Int.zero_sub]
    rfl
def cpz (f g : Nat → Int) (sp dp n : Nat) : Nat → Int := fun j => if dp ≤ j ∧ j < dp + n then f (sp + (j - dp)) else g j
theorem px_copy {a b n0 n1 : Nat} {g k : Nat → Int} {sp dp n : Int} (hi : pi_ins mi pc = some (ps_copy nx)) (ha : h.1 a = some (aI 0 n0 g)) (hb : h.1 b = some (aI 0 n1 k)) (hr : (0 ≤ n ∧ n ≤ 1000) ∧ (0 ≤ sp ∧ sp ≤ 1000) ∧ (0 ≤ dp ∧ dp ≤ 1000) ∧ sp.toNat + n.toNat ≤ n0 ∧ dp.toNat + n.toNat ≤ n1) (hl : ps_low st = true) :
    px_Ev d mi pc ls (.int (zI n) :: .int (zI dp) :: .ref b :: .int (zI sp) :: .ref a :: st) h Q = px_Ev d mi nx ls st (pm_put h b (aI 0 n1 (cpz g k sp.toNat dp.toNat n.toNat))) Q := by
  refine px_nx hi ?_
  have e : va_cpy (fun j => zI (g j)) (fun j => zI (k j)) sp.toNat dp.toNat n.toNat = fun j => zI (cpz g k sp.toNat dp.toNat n.toNat j) := by
    funext j
    unfold cpz
    by_cases hj : dp.toNat ≤ j ∧ j < dp.toNat + n.toNat
    · rw [if_pos hj]
      exact pk_cpy_in hj.1 hj.2
    · rw [if_neg hj]
      exact pk_cpy_out (by omega)
  simp only [ps_copy, ha, hb, aI]
  rw [zI_toInt (by omega), zI_toInt (by omega), zI_toInt (by omega), zI_nat (by omega), zI_nat (by omega), zI_nat (by omega), if_pos ⟨trivial, trivial, hr.1.1, hr.2.2.1.1, hr.2.1.1, hr.2.2.2.1, hr.2.2.2.2, hl⟩, e]
  rfl
theorem px_callV {ci tm k j n b : Nat} {fs rest locs ls1 : List Value} {hd : List Value → String → Option (Nat × List Value)} {v : Option Value} {h' : pm_H} (hc : px_R j tm locs h (.inl v) h') (hj : j + 1 ≤ d) (ho : h.1 b = some (.inr (ci, fs))) (hl : ps_low rest = true) (hi : pi_ins mi pc = some (ps_callV ci tm k n nx hd)) (h1 : ls1.drop k = .ref b :: rest) (h2 : (ls1.take k).all ps_okA = true) (h3 : ps_fill n (.ref b :: (ls1.take k).reverse) = locs) :
    px_Ev d mi pc ls ls1 h Q = px_Ev d mi nx ls (v.toList ++ rest) h' Q := by
  refine px_call (ls1 := ls) (rest := rest) (hd := hd ls) hc hj hi ?_
  simp only [ps_callV, h1, ho]
  rw [if_pos ⟨trivial, h2, hl⟩, h3]
theorem px_callVX {ci tm k j n b : Nat} {fs rest locs ls1 : List Value} {hd : List Value → String → Option (Nat × List Value)} {E : String} {h' : pm_H} (hc : px_R j tm locs h (.inr E) h') (hj : j + 1 ≤ d) (ho : h.1 b = some (.inr (ci, fs))) (hl : ps_low rest = true) (hi : pi_ins mi pc = some (ps_callV ci tm k n nx hd)) (h1 : ls1.drop k = .ref b :: rest) (h2 : (ls1.take k).all ps_okA = true) (h3 : ps_fill n (.ref b :: (ls1.take k).reverse) = locs) :
    px_Ev d mi pc ls ls1 h Q = (match hd ls E with
      | none => Q (.inr E) h'
      | some q => px_Ev d mi q.1 q.2 [] h' Q) := by
  refine px_callX (ls1 := ls) (rest := rest) (hd := hd ls) (nx := nx) hc hj hi ?_
  simp only [ps_callV, h1, ho]
  rw [if_pos ⟨trivial, h2, hl⟩, h3]
theorem px_callS {tm k j n : Nat} {rest locs ls1 : List Value} {hd : List Value → String → Option (Nat × List Value)} {v : Option Value} {h' : pm_H} (hc : px_R j tm locs h (.inl v) h') (hj : j + 1 ≤ d) (hl : ps_low rest = true) (hi : pi_ins mi pc = some (ps_callS tm k n nx hd)) (h0 : k ≤ ls1.length) (h1 : ls1.drop k = rest) (h2 : (ls1.take k).all ps_okA = true) (h3 : ps_fill n ((ls1.take k).reverse) = locs) :
    px_Ev d mi pc ls ls1 h Q = px_Ev d mi nx ls (v.toList ++ rest) h' Q := by
  refine px_call (ls1 := ls) (rest := rest) (hd := hd ls) hc hj hi ?_
  simp only [ps_callS, h1]
  rw [if_pos ⟨h0, h2, hl⟩, h3]
theorem px_callSX {tm k j n : Nat} {rest locs ls1 : List Value} {hd : List Value → String → Option (Nat × List Value)} {E : String} {h' : pm_H} (hc : px_R j tm locs h (.inr E) h') (hj : j + 1 ≤ d) (hl : ps_low rest = true) (hi : pi_ins mi pc = some (ps_callS tm k n nx hd)) (h0 : k ≤ ls1.length) (h1 : ls1.drop k = rest) (h2 : (ls1.take k).all ps_okA = true) (h3 : ps_fill n ((ls1.take k).reverse) = locs) :
    px_Ev d mi pc ls ls1 h Q = (match hd ls E with
      | none => Q (.inr E) h'
      | some q => px_Ev d mi q.1 q.2 [] h' Q) := by
  refine px_callX (ls1 := ls) (rest := rest) (hd := hd ls) (nx := nx) hc hj hi ?_
  simp only [ps_callS, h1]
  rw [if_pos ⟨h0, h2, hl⟩, h3]
theorem px_callT {tm k j n b : Nat} {q : Nat × List Nat} {rest locs ls1 : List Value} {hd : List Value → String → Option (Nat × List Value)} {v : Option Value} {h' : pm_H} (hc : px_R j tm locs h (.inl v) h') (hj : j + 1 ≤ d) (ho : (pm_cst h).2.2.1 b = some q) (hl : ps_low rest = true) (hi : pi_ins mi pc = some (ps_callT tm k n nx hd)) (h1 : ls1.drop k = .ref b :: rest) (h2 : (ls1.take k).all ps_okA = true) (h3 : ps_fill n (.ref b :: (ls1.take k).reverse) = locs) :
    px_Ev d mi pc ls ls1 h Q = px_Ev d mi nx ls (v.toList ++ rest) h' Q := by
  refine px_call (ls1 := ls) (rest := rest) (hd := hd ls) hc hj hi ?_
  simp only [ps_callT, h1, ho]
  rw [if_pos ⟨h2, hl⟩, h3]
theorem px_return (hi : pi_ins mi pc = some ps_return) : px_Ev d mi pc ls [] h Q = Q (.inl none) h := px_fn hi rfl
theorem px_ireturnI {x : Int32} (hi : pi_ins mi pc = some (ps_ireturn ps_okI)) : px_Ev d mi pc ls [.int x] h Q = Q (.inl (some (.int x))) h := px_fn hi rfl
theorem px_ireturnZ {x : Int} (hi : pi_ins mi pc = some (ps_ireturn ps_okZ)) (hx : x = 0 ∨ x = 1) : px_Ev d mi pc ls [.int (zI x)] h Q = Q (.inl (some (.int (zI x)))) h := px_fn hi (by
  simp only [ps_ireturn]
  rw [if_pos (by rcases hx with rfl | rfl <;> decide)]
  rfl)
theorem px_ireturnC {x : Int} (hi : pi_ins mi pc = some (ps_ireturn ps_okC)) (hx : 0 ≤ x ∧ x < 65536) : px_Ev d mi pc ls [.int (zI x)] h Q = Q (.inl (some (.int (zI x)))) h := px_fn hi (by
  simp only [ps_ireturn]
  rw [if_pos (by unfold ps_okC; dsimp only; rw [zI_toInt (by omega)]; simp; omega)]
  rfl)
theorem px_throw {E : String} (hi : pi_ins mi pc = some (ps_throw E)) : px_Ev d mi pc ls [] h Q = Q (.inr E) (pm_thrown h) := px_fn hi rfl
end PS
/-! the heap's looks -/
theorem pm_put_eq {h : pm_H} {a : Nat} {e : pm_E} : (pm_put h a e).1 a = some e := by simp [pm_put]
theorem pm_put_ne {h : pm_H} {a b : Nat} {e : pm_E} (hn : b ≠ a) : (pm_put h a e).1 b = h.1 b := by simp [pm_put, hn]
theorem pm_put_put {h : pm_H} {a : Nat} {e e' : pm_E} : pm_put (pm_put h a e) a e' = pm_put h a e' := by
  unfold pm_put
  congr 1
  funext q
  dsimp only
  split <;> rfl
theorem pm_put_same {h : pm_H} {a : Nat} {e : pm_E} (he : h.1 a = some e) : pm_put h a e = h := by
  unfold pm_put
  obtain ⟨h1, h2⟩ := h
  congr 1
  funext q
  dsimp only at he ⊢
  split
  · rename_i z
    rw [z, he]
  · rfl
