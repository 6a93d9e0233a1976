/-! THE PURE MACHINE: a heap of abstract cells, a frame of abstract values, a step a function. A local that nothing is known of is a .retAddr. -/
abbrev pm_E : Type := (Nat × vp_A) ⊕ (Nat × List Value)
/-- what never changes: the script (address, length, ints); the addresses of the texts by their number; at a text's address its bytes' address and its signs; at its bytes' address its signs; what the JDK's formatter is -/
abbrev pm_C : Type := (Nat × Nat × (Nat → Int32)) × (Nat → Nat) × (Nat → Option (Nat × List Nat)) × (Nat → Option (List Nat)) × Value
/-- counts: throws so far, the next address, cells, slots -/
abbrev pm_M : Type := Nat × Nat × Nat × Nat
abbrev pm_H : Type := (Nat → Option pm_E) × pm_M × pm_C
abbrev pm_F : Type := Nat × List Value × List Value × pm_H
/-- an outcome: what is returned, or the class that is thrown -/
abbrev pm_O : Type := Option Value ⊕ String
/-- a call: the callee and its first locals; where it goes on: place, locals, stack; where a class that is thrown is caught; the heap -/
abbrev pm_K : Type := Nat × List Value × (Nat × List Value × List Value) × (String → Option (Nat × List Value)) × pm_H
abbrev pm_R : Type := Option (pm_F ⊕ (pm_K ⊕ (pm_O × pm_H)))
abbrev pm_S : Type := List Value → List Value → pm_H → pm_R
def pm_get (h : pm_H) (a : Nat) : Option pm_E := h.1 a
def pm_put (h : pm_H) (a : Nat) (e : pm_E) : pm_H := (fun q => if q = a then some e else h.1 q, h.2)
def pm_gap (h : pm_H) : Nat := h.2.1.1
def pm_size (h : pm_H) : Nat := h.2.1.2.1
def pm_cells (h : pm_H) : Nat := h.2.1.2.2.1
def pm_slots (h : pm_H) : Nat := h.2.1.2.2.2
def pm_cst (h : pm_H) : pm_C := h.2.2
def pm_new (h : pm_H) (e : pm_E) (n : Nat) : pm_H := (fun q => if q = pm_size h then some e else h.1 q, (pm_gap h, pm_size h + 1, pm_cells h + 1, pm_slots h + n), pm_cst h)
def pm_thrown (h : pm_H) : pm_H := (h.1, (pm_gap h + 1, pm_size h, pm_cells h + 1, pm_slots h + 6), pm_cst h)
def pm_next (nx : Nat) (ls st : List Value) (h : pm_H) : pm_R := some (.inl (nx, ls, st, h))
def pm_fin (o : pm_O) (h : pm_H) : pm_R := some (.inr (.inr (o, h)))
-- constants, locals, stack
def ps_push (v : Int32) (nx : Nat) : pm_S := fun ls st h => pm_next nx ls (.int v :: st) h
def ps_iload (k nx : Nat) : pm_S := fun ls st h => match ls[k]? with
  | some (.int x) => pm_next nx ls (.int x :: st) h
  | _ => none
def ps_aload (k nx : Nat) : pm_S := fun ls st h => match ls[k]? with
  | some (.ref a) => pm_next nx ls (.ref a :: st) h
  | _ => none
def ps_istore (k nx : Nat) : pm_S := fun ls st h => match st with
  | .int x :: r => pm_next nx (ls.set k (.int x)) r h
  | _ => none
def ps_astore (k nx : Nat) : pm_S := fun ls st h => match st with
  | .ref x :: r => pm_next nx (ls.set k (.ref x)) r h
  | _ => none
def ps_iinc (k : Nat) (n : Int32) (nx : Nat) : pm_S := fun ls st h => match ls[k]? with
  | some (.int x) => pm_next nx (ls.set k (.int (x + n))) st h
  | _ => none
def ps_bin (f : Int32 → Int32 → Int32) (nx : Nat) : pm_S := fun ls st h => match st with
  | .int y :: .int x :: r => pm_next nx ls (.int (f x y) :: r) h
  | _ => none
def ps_div (nx : Nat) : pm_S := fun ls st h => match st with
  | .int y :: .int x :: r => if y = 0 then none else pm_next nx ls (.int (x / y) :: r) h
  | _ => none
def ps_rem (nx : Nat) : pm_S := fun ls st h => match st with
  | .int y :: .int x :: r => if y = 0 then none else pm_next nx ls (.int (x - x / y * y) :: r) h
  | _ => none
def ps_un (f : Int32 → Int32) (nx : Nat) : pm_S := fun ls st h => match st with
  | .int x :: r => pm_next nx ls (.int (f x) :: r) h
  | _ => none
def ps_i2l (nx : Nat) : pm_S := fun ls st h => match st with
  | .int x :: r => pm_next nx ls (.long x.toInt64 :: r) h
  | _ => none
def ps_lcmp (nx : Nat) : pm_S := fun ls st h => match st with
  | .long y :: .long x :: r => pm_next nx ls (.int (lg_cmp x y) :: r) h
  | _ => none
def ps_dup (nx : Nat) : pm_S := fun ls st h => match st with
  | v :: r => if v.category = 1 then pm_next nx ls (v :: v :: r) h else none
  | _ => none
def ps_pop (nx : Nat) : pm_S := fun ls st h => match st with
  | v :: r => if v.category = 1 then pm_next nx ls r h else none
  | _ => none
def ps_dup2 (nx : Nat) : pm_S := fun ls st h => match st with
  | v :: w :: r => if v.category = 1 ∧ w.category = 1 then pm_next nx ls (v :: w :: v :: w :: r) h else none
  | _ => none
-- branches
def ps_goto (t : Nat) : pm_S := fun ls st h => pm_next t ls st h
def ps_if (c : Int32 → Bool) (t nx : Nat) : pm_S := fun ls st h => match st with
  | .int x :: r => if c x = true then pm_next t ls r h else pm_next nx ls r h
  | _ => none
def ps_icmp (c : Int32 → Int32 → Bool) (t nx : Nat) : pm_S := fun ls st h => match st with
  | .int y :: .int x :: r => if c x y = true then pm_next t ls r h else pm_next nx ls r h
  | _ => none
/-- if (reference is null); t: where it goes if it isn't -/
def ps_nonnull (t : Nat) : pm_S := fun ls st h => match st with
  | .ref _ :: r => pm_next t ls r h
  | _ => none
def ps_switch (f : Int32 → Nat) : pm_S := fun ls st h => match st with
  | .int x :: r => pm_next (f x) ls r h
  | _ => none
-- fields
def ps_getf (ci k nx : Nat) : pm_S := fun ls st h => match st with
  | .ref a :: r => match h.1 a with
    | some (.inr (c, fs)) => if c = ci then (match fs[k]? with
      | some v => pm_next nx ls (v :: r) h
      | none => none) else none
    | _ => none
  | _ => none
def ps_okI (v : Value) : Bool := match v with
  | .int _ => true
  | _ => false
def ps_okZ (v : Value) : Bool := match v with
  | .int x => x == 0 || x == 1
  | _ => false
def ps_okR (v : Value) : Bool := match v with
  | .ref _ => true
  | _ => false
def ps_putf (ok : Value → Bool) (ci k nx : Nat) : pm_S := fun ls st h => match st with
  | v :: .ref a :: r => match h.1 a with
    | some (.inr (c, fs)) => if c = ci ∧ k < fs.length ∧ ok v = true then pm_next nx ls r (pm_put h a (.inr (ci, fs.set k v))) else none
    | _ => none
  | _ => none
-- arrays of ints (kind 0), booleans (1), chars (2), longs (3), references (4 and more)
def ps_in (i : Int32) (n : Nat) : Bool := decide (0 ≤ i.toInt) && decide (i.toInt < n)
def ps_ald (kd nx : Nat) : pm_S := fun ls st h => match st with
  | .int i :: .ref a :: r => match h.1 a with
    | some (.inl (k, n, .inl f)) => if k = kd ∧ ps_in i n = true then pm_next nx ls (.int (f i.toNatClampNeg) :: r) h else none
    | _ => none
  | _ => none
def ps_sld (nx : Nat) : pm_S := fun ls st h => match st with
  | .int i :: .ref a :: r => if a = (pm_cst h).1.1 ∧ ps_in i (pm_cst h).1.2.1 = true then pm_next nx ls (.int ((pm_cst h).1.2.2 i.toNatClampNeg) :: r) h else none
  | _ => none
def ps_slen (nx : Nat) : pm_S := fun ls st h => match st with
  | .ref a :: r => if a = (pm_cst h).1.1 then pm_next nx ls (.int (Int32.ofNat (pm_cst h).1.2.1) :: r) h else none
  | _ => none
def ps_lald (nx : Nat) : pm_S := fun ls st h => match st with
  | .int i :: .ref a :: r => match h.1 a with
    | some (.inl (k, n, .inr (.inl f))) => if k = 3 ∧ ps_in i n = true then pm_next nx ls (.long (f i.toNatClampNeg) :: r) h else none
    | _ => none
  | _ => none
def ps_aald (nx : Nat) : pm_S := fun ls st h => match st with
  | .int i :: .ref a :: r => match h.1 a with
    | some (.inl (k, n, .inr (.inr (.inr (.inr f))))) => if 4 ≤ k ∧ k < 7 ∧ ps_in i n = true then pm_next nx ls (va_rf (f i.toNatClampNeg) :: r) h else none
    | _ => none
  | _ => none
def ps_okC (v : Value) : Bool := match v with
  | .int x => decide (0 ≤ x.toInt) && decide (x.toInt < 65536)
  | _ => false
def ps_ast (ok : Value → Bool) (kd nx : Nat) : pm_S := fun ls st h => match st with
  | .int x :: .int i :: .ref a :: r => match h.1 a with
    | some (.inl (k, n, .inl f)) => if k = kd ∧ ps_in i n = true ∧ ok (.int x) = true then pm_next nx ls r (pm_put h a (.inl (kd, n, .inl (upd f i.toNatClampNeg x)))) else none
    | _ => none
  | _ => none
def ps_last (nx : Nat) : pm_S := fun ls st h => match st with
  | .long x :: .int i :: .ref a :: r => match h.1 a with
    | some (.inl (k, n, .inr (.inl f))) => if k = 3 ∧ ps_in i n = true then pm_next nx ls r (pm_put h a (.inl (3, n, .inr (.inl (vp_updL f i.toNatClampNeg x))))) else none
    | _ => none
  | _ => none
/-- a Sheet (class place 7) into an array of Sheets (kind 4) -/
def ps_aast (nx : Nat) : pm_S := fun ls st h => match st with
  | .ref x :: .int i :: .ref a :: r => match h.1 a, h.1 x with
    | some (.inl (k, n, .inr (.inr (.inr (.inr f))))), some (.inr (c, _)) => if k = 4 ∧ c = 7 ∧ ps_in i n = true then pm_next nx ls r (pm_put h a (.inl (4, n, .inr (.inr (.inr (.inr (va_up f i.toNatClampNeg (some x)))))))) else none
    | _, _ => none
  | _ => none
/-- a text into an array of texts (kind 5) -/
def ps_sast (nx : Nat) : pm_S := fun ls st h => match st with
  | .ref x :: .int i :: .ref a :: r => match h.1 a, (pm_cst h).2.2.1 x with
    | some (.inl (k, n, .inr (.inr (.inr (.inr f))))), some _ => if k = 5 ∧ ps_in i n = true then pm_next nx ls r (pm_put h a (.inl (5, n, .inr (.inr (.inr (.inr (va_up f i.toNatClampNeg (some x)))))))) else none
    | _, _ => none
  | _ => none
def ps_alen (nx : Nat) : pm_S := fun ls st h => match st with
  | .ref a :: r => match h.1 a with
    | some (.inl (k, n, _)) => if k < 7 then pm_next nx ls (.int (Int32.ofNat n) :: r) h else none
    | _ => none
  | _ => none
-- new
def ps_new (ci : Nat) (fs : List Value) (nx : Nat) : pm_S := fun ls st h => if pm_gap h = 0 then pm_next nx ls (.ref (pm_size h) :: st) (pm_new h (.inr (ci, fs)) fs.length) else none
def ps_zero (kd : Nat) : ((Nat → Int32) ⊕ (Nat → Int64) ⊕ (Nat → UInt32) ⊕ (Nat → UInt64) ⊕ (Nat → Option Nat)) :=
  if kd < 3 then .inl (fun _ => 0) else if kd = 3 then .inr (.inl (fun _ => 0)) else .inr (.inr (.inr (.inr (fun _ => none))))
def ps_newa (kd nx : Nat) : pm_S := fun ls st h => match st with
  | .int n :: r => if pm_gap h = 0 ∧ 0 ≤ n.toInt ∧ n.toInt ≤ 1000 then pm_next nx ls (.ref (pm_size h) :: r) (pm_new h (.inl (kd, n.toNatClampNeg, ps_zero kd)) n.toNatClampNeg) else none
  | _ => none
/-- new int[7][7] -/
def ps_row7 (q : Nat) : Nat → Option Nat := fun j => if j < 7 then some (q + 1 + j) else none
def ps_new77 (nx : Nat) : pm_S := fun ls st h => match st with
  | .int n :: .int k :: r => if pm_gap h = 0 ∧ n = 7 ∧ k = 7 then pm_next nx ls (.ref (pm_size h) :: r)
      (fun q => if q = pm_size h then some (.inl (6, 7, .inr (.inr (.inr (.inr (ps_row7 (pm_size h))))))) else if pm_size h < q ∧ q < pm_size h + 8 then some (.inl (0, 7, .inl (fun _ => 0))) else h.1 q,
        (pm_gap h, pm_size h + 8, pm_cells h + 8, pm_slots h + 56), pm_cst h) else none
  | _ => none
-- texts
def ps_ldc (k nx : Nat) : pm_S := fun ls st h => pm_next nx ls (.ref ((pm_cst h).2.1 k) :: st) h
def ps_fmt (nx : Nat) : pm_S := fun ls st h => pm_next nx ls ((pm_cst h).2.2.2.2 :: st) h
/-- a text's bytes; its coder; the bytes' number; a byte -/
def ps_tval (nx : Nat) : pm_S := fun ls st h => match st with
  | .ref a :: r => match (pm_cst h).2.2.1 a with
    | some q => pm_next nx ls (.ref q.1 :: r) h
    | none => none
  | _ => none
def ps_tcod (nx : Nat) : pm_S := fun ls st h => match st with
  | .ref a :: r => match (pm_cst h).2.2.1 a with
    | some _ => pm_next nx ls (.int 0 :: r) h
    | none => none
  | _ => none
def ps_blen (nx : Nat) : pm_S := fun ls st h => match st with
  | .ref a :: r => match (pm_cst h).2.2.2.1 a with
    | some t => pm_next nx ls (.int (Int32.ofNat t.length) :: r) h
    | none => none
  | _ => none
def ps_bald (nx : Nat) : pm_S := fun ls st h => match st with
  | .int i :: .ref a :: r => match (pm_cst h).2.2.2.1 a with
    | some t => if ps_in i t.length = true then pm_next nx ls (.int (Int32.ofNat (t.getD i.toNatClampNeg 0)) :: r) h else none
    | none => none
  | _ => none
/-- what may be handed over; what may lie on the stack below a call -/
def ps_okA (v : Value) : Bool := match v with
  | .int _ => true
  | .ref _ => true
  | .null => true
  | _ => false
def ps_low (st : List Value) : Bool := decide ((st.map fun v => v.category).sum ≤ 8)
-- Math, System.arraycopy of arrays of ints
def ps_copy (nx : Nat) : pm_S := fun ls st h => match st with
  | .int n :: .int dp :: .ref b :: .int sp :: .ref a :: r => match h.1 a, h.1 b with
    | some (.inl (k, n0, .inl f)), some (.inl (k1, n1, .inl g)) =>
      if k = 0 ∧ k1 = 0 ∧ 0 ≤ n.toInt ∧ 0 ≤ dp.toInt ∧ 0 ≤ sp.toInt ∧ sp.toNatClampNeg + n.toNatClampNeg ≤ n0 ∧ dp.toNatClampNeg + n.toNatClampNeg ≤ n1 ∧ ps_low r = true then
        pm_next nx ls r (pm_put h b (.inl (0, n1, .inl (va_cpy f g sp.toNatClampNeg dp.toNatClampNeg n.toNatClampNeg)))) else none
    | _, _ => none
  | _ => none
-- calls: callee, how many arguments (the receiver apart), how many locals it has
def ps_fill (n : Nat) (as : List Value) : List Value := as ++ List.replicate (n - as.length) (.retAddr 0)
def pm_none : String → Option (Nat × List Value) := fun _ => none
/-- an instance method of an object of class place ci -/
def ps_callV (ci tm k n nx : Nat) (hd : List Value → String → Option (Nat × List Value)) : pm_S := fun ls st h => match st.drop k with
  | .ref b :: r => match h.1 b with
    | some (.inr (c, _)) => if c = ci ∧ (st.take k).all ps_okA = true ∧ ps_low r = true then some (.inr (.inl (tm, ps_fill n (.ref b :: (st.take k).reverse), (nx, ls, r), hd ls, h))) else none
    | _ => none
  | _ => none
/-- an instance method of a text -/
def ps_callT (tm k n nx : Nat) (hd : List Value → String → Option (Nat × List Value)) : pm_S := fun ls st h => match st.drop k with
  | .ref b :: r => match (pm_cst h).2.2.1 b with
    | some _ => if (st.take k).all ps_okA = true ∧ ps_low r = true then some (.inr (.inl (tm, ps_fill n (.ref b :: (st.take k).reverse), (nx, ls, r), hd ls, h))) else none
    | none => none
  | _ => none
def ps_callS (tm k n nx : Nat) (hd : List Value → String → Option (Nat × List Value)) : pm_S := fun ls st h =>
  if k ≤ st.length ∧ (st.take k).all ps_okA = true ∧ ps_low (st.drop k) = true then some (.inr (.inl (tm, ps_fill n ((st.take k).reverse), (nx, ls, st.drop k), hd ls, h))) else none
-- ends
def ps_return : pm_S := fun _ st h => match st with
  | [] => pm_fin (.inl none) h
  | _ => none
def ps_ireturn (ok : Value → Bool) : pm_S := fun _ st h => match st with
  | [.int x] => if ok (.int x) = true then pm_fin (.inl (some (.int x))) h else none
  | _ => none
def ps_throw (E : String) : pm_S := fun _ st h => match st with
  | [] => pm_fin (.inr E) (pm_thrown h)
  | _ => none
/-- the run of a method -/
def pm_go (ins : Nat → Nat → Option pm_S) : Nat → Nat → Nat → Nat → List Value → List Value → pm_H → Option (pm_O × pm_H)
  | 0, _, _, _, _, _, _ => none
  | n + 1, d, mi, pc, ls, st, h => match ins mi pc with
    | none => none
    | some f => match f ls st h with
      | none => none
      | some (.inl g) => pm_go ins n d mi g.1 g.2.1 g.2.2.1 g.2.2.2
      | some (.inr (.inr r)) => some r
      | some (.inr (.inl k)) => match d with
        | 0 => none
        | d' + 1 => match pm_go ins n d' k.1 0 k.2.1 [] k.2.2.2.2 with
          | none => none
          | some (.inl v, h') => pm_go ins n (d' + 1) mi k.2.2.1.1 k.2.2.1.2.1 (v.toList ++ k.2.2.1.2.2) h'
          | some (.inr E, h') => match k.2.2.2.1 E with
            | none => some (.inr E, h')
            | some q => pm_go ins n (d' + 1) mi q.1 q.2 [] h'
