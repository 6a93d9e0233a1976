/-! THE HEAP AS ONE FUNCTION OF INTEGERS: zh T S c; T a: what lies at address a (class + 1; 20 ints, 21 booleans, 22 chars, 23 longs, 24 25 26 references), S a: its integers -/
/-- an object whose constructor has not ended: a number below 0 where nothing is referred to yet -/
def rz (x : Int) : Value := if x < 0 then .null else .ref x.toNat
def r0 (F : Nat → Int) : pm_E := .inr (0, [rz (F 0), rz (F 1), rz (F 2), .int (zI (F 3)), rz (F 4), rz (F 5)])
def r1 (F : Nat → Int) : pm_E := .inr (1, [.int (zI (F 0)), .int (zI (F 1)), .int (zI (F 2)), .int (zI (F 3)), .int (zI (F 4)), .int (zI (F 5)), rz (F 6), .int (zI (F 7)), .int (zI (F 8))])
def r2 (F : Nat → Int) : pm_E := .inr (2, [.int (zI (F 0)), rz (F 1), rz (F 2)])
def r3 (F : Nat → Int) : pm_E := .inr (3, [.int (zI (F 0)), rz (F 1), rz (F 2)])
def r4 (F : Nat → Int) : pm_E := .inr (4, [.int (zI (F 0)), .int (zI (F 1)), .int (zI (F 2)), .int (zI (F 3)), .int (zI (F 4)), .int (zI (F 5)), .int (zI (F 6)), rz (F 7), rz (F 8), rz (F 9), rz (F 10), rz (F 11), rz (F 12), rz (F 13)])
def r5 (F : Nat → Int) : pm_E := .inr (5, [.int (zI (F 0)), .int (zI (F 1)), .int (zI (F 2)), rz (F 3), rz (F 4)])
def r6 (F : Nat → Int) : pm_E := .inr (6, [.int (zI (F 0)), .int (zI (F 1)), .int (zI (F 2)), .int (zI (F 3)), rz (F 4), .int (zI (F 5)), .int (zI (F 6)), rz (F 7), rz (F 8), rz (F 9), rz (F 10), rz (F 11), rz (F 12), rz (F 13), .int (zI (F 14)), .int (zI (F 15)), .int (zI (F 16))])
def r7 (F : Nat → Int) : pm_E := .inr (7, [.int (zI (F 0)), .int (zI (F 1)), .int (zI (F 2)), .int (zI (F 3)), .int (zI (F 4)), rz (F 5), rz (F 6), rz (F 7), rz (F 8), rz (F 9), rz (F 10), rz (F 11), rz (F 12)])
def r8 (F : Nat → Int) : pm_E := .inr (8, [.int (zI (F 0)), .int (zI (F 1)), rz (F 2), rz (F 3), rz (F 4), rz (F 5), rz (F 6)])
def r9 (F : Nat → Int) : pm_E := .inr (9, [.int (zI (F 0)), .int (zI (F 1)), .int (zI (F 2)), rz (F 3), .int (zI (F 4)), .int (zI (F 5)), .int (zI (F 6)), .int (zI (F 7)), .int (zI (F 8))])
def r10 (F : Nat → Int) : pm_E := .inr (10, [rz (F 0), rz (F 1), rz (F 2), rz (F 3), rz (F 4), rz (F 5), rz (F 6), rz (F 7), .int (zI (F 8)), rz (F 9), rz (F 10), rz (F 11), rz (F 12), .int (zI (F 13))])
def r11 (F : Nat → Int) : pm_E := .inr (11, [rz (F 0), .int (zI (F 1)), rz (F 2), rz (F 3), rz (F 4), rz (F 5), rz (F 6), rz (F 7), rz (F 8), rz (F 9), rz (F 10), .int (zI (F 11)), .int (zI (F 12)), .int (zI (F 13)), .int (zI (F 14)), .int (zI (F 15)), .int (zI (F 16)), .int (zI (F 17)), .int (zI (F 18)), .int (zI (F 19)), .int (zI (F 20)), .int (zI (F 21)), .int (zI (F 22)), rz (F 23), rz (F 24), rz (F 25), rz (F 26), rz (F 27), rz (F 28), rz (F 29), rz (F 30), rz (F 31), rz (F 32), rz (F 33), rz (F 34), .int (zI (F 35)), .int (zI (F 36)), .int (zI (F 37)), .int (zI (F 38)), .int (zI (F 39)), .int (zI (F 40)), .int (zI (F 41)), rz (F 42), rz (F 43), .int (zI (F 44)), .int (zI (F 45)), .int (zI (F 46)), rz (F 47), rz (F 48), rz (F 49), rz (F 50), .int (zI (F 51)), .int (zI (F 52)), .int (zI (F 53)), .int (zI (F 54)), rz (F 55), rz (F 56), rz (F 57), .int (zI (F 58)), .int (zI (F 59)), .int (zI (F 60)), .int (zI (F 61)), rz (F 62), rz (F 63), rz (F 64), rz (F 65)])
def zc (t : Nat × Nat) (q : Nat) (F : Nat → Int) : Option pm_E := match t.1 with
  | 1 => some (o0 q F)
  | 2 => some (o1 q F)
  | 3 => some (o2 q F)
  | 4 => some (o3 q F)
  | 5 => some (o4 q F)
  | 6 => some (o5 q F)
  | 7 => some (o6 q F)
  | 8 => some (o7 q F)
  | 9 => some (o8 q F)
  | 10 => some (o9 q F)
  | 11 => some (o10 q F)
  | 12 => some (o11 q F)
  | 20 => some (aI 0 t.2 F)
  | 21 => some (aI 1 t.2 F)
  | 22 => some (aI 2 t.2 F)
  | 23 => some (.inl (3, t.2, .inr (.inl (fun j => Int64.ofInt (F j)))))
  | 24 => some (aR 4 t.2 (fun j => if j < t.2 then some (F j).toNat else none))
  | 25 => some (aR 5 t.2 (fun j => if j < t.2 then some (F j).toNat else none))
  | 26 => some (aR 6 t.2 (fun j => if j < t.2 then some (F j).toNat else none))
  | 40 => some (r0 F)
  | 41 => some (r1 F)
  | 42 => some (r2 F)
  | 43 => some (r3 F)
  | 44 => some (r4 F)
  | 45 => some (r5 F)
  | 46 => some (r6 F)
  | 47 => some (r7 F)
  | 48 => some (r8 F)
  | 49 => some (r9 F)
  | 50 => some (r10 F)
  | 51 => some (r11 F)
  | 54 => some (aR 4 t.2 (fun j => if j < t.2 ∧ 0 ≤ F j then some (F j).toNat else none))
  | 55 => some (aR 5 t.2 (fun j => if j < t.2 ∧ 0 ≤ F j then some (F j).toNat else none))
  | 56 => some (aR 6 t.2 (fun j => if j < t.2 ∧ 0 ≤ F j then some (F j).toNat else none))
  | _ => none
theorem zc_1 {n q : Nat} {F : Nat → Int} : zc (1, n) q F = some (o0 q F) := rfl
theorem zc_2 {n q : Nat} {F : Nat → Int} : zc (2, n) q F = some (o1 q F) := rfl
theorem zc_3 {n q : Nat} {F : Nat → Int} : zc (3, n) q F = some (o2 q F) := rfl
theorem zc_4 {n q : Nat} {F : Nat → Int} : zc (4, n) q F = some (o3 q F) := rfl
theorem zc_5 {n q : Nat} {F : Nat → Int} : zc (5, n) q F = some (o4 q F) := rfl
theorem zc_6 {n q : Nat} {F : Nat → Int} : zc (6, n) q F = some (o5 q F) := rfl
theorem zc_7 {n q : Nat} {F : Nat → Int} : zc (7, n) q F = some (o6 q F) := rfl
theorem zc_8 {n q : Nat} {F : Nat → Int} : zc (8, n) q F = some (o7 q F) := rfl
theorem zc_9 {n q : Nat} {F : Nat → Int} : zc (9, n) q F = some (o8 q F) := rfl
theorem zc_10 {n q : Nat} {F : Nat → Int} : zc (10, n) q F = some (o9 q F) := rfl
theorem zc_11 {n q : Nat} {F : Nat → Int} : zc (11, n) q F = some (o10 q F) := rfl
theorem zc_12 {n q : Nat} {F : Nat → Int} : zc (12, n) q F = some (o11 q F) := rfl
theorem zc_20 {n q : Nat} {F : Nat → Int} : zc (20, n) q F = some (aI 0 n F) := rfl
theorem zc_21 {n q : Nat} {F : Nat → Int} : zc (21, n) q F = some (aI 1 n F) := rfl
theorem zc_22 {n q : Nat} {F : Nat → Int} : zc (22, n) q F = some (aI 2 n F) := rfl
theorem zc_23 {n q : Nat} {F : Nat → Int} : zc (23, n) q F = some (.inl (3, n, .inr (.inl (fun j => Int64.ofInt (F j))))) := rfl
theorem zc_24 {n q : Nat} {F : Nat → Int} : zc (24, n) q F = some (aR 4 n (fun j => if j < n then some (F j).toNat else none)) := rfl
theorem zc_25 {n q : Nat} {F : Nat → Int} : zc (25, n) q F = some (aR 5 n (fun j => if j < n then some (F j).toNat else none)) := rfl
theorem zc_26 {n q : Nat} {F : Nat → Int} : zc (26, n) q F = some (aR 6 n (fun j => if j < n then some (F j).toNat else none)) := rfl
theorem zc_54 {n q : Nat} {F : Nat → Int} : zc (54, n) q F = some (aR 4 n (fun j => if j < n ∧ 0 ≤ F j then some (F j).toNat else none)) := rfl
theorem zc_55 {n q : Nat} {F : Nat → Int} : zc (55, n) q F = some (aR 5 n (fun j => if j < n ∧ 0 ≤ F j then some (F j).toNat else none)) := rfl
theorem zc_56 {n q : Nat} {F : Nat → Int} : zc (56, n) q F = some (aR 6 n (fun j => if j < n ∧ 0 ≤ F j then some (F j).toNat else none)) := rfl
def zh (T : Nat → Nat × Nat) (S : Nat → Nat → Int) (c : pm_M × pm_C) : pm_H := (fun a => zc (T a) a (S a), c)
theorem zh_1 {T : Nat → Nat × Nat} {S : Nat → Nat → Int} {c : pm_M × pm_C} {a : Nat} : (zh T S c).1 a = zc (T a) a (S a) := rfl
theorem zh_2 {T : Nat → Nat × Nat} {S : Nat → Nat → Int} {c : pm_M × pm_C} : (zh T S c).2 = c := rfl
def upS (S : Nat → Nat → Int) (a : Nat) (f : Nat → Int) : Nat → Nat → Int := fun b => if b = a then f else S b
theorem upS_eq {S : Nat → Nat → Int} {a : Nat} {f : Nat → Int} : upS S a f a = f := if_pos rfl
theorem upS_ne {S : Nat → Nat → Int} {a b : Nat} {f : Nat → Int} (h : b ≠ a) : upS S a f b = S b := if_neg h
theorem upS_up {S : Nat → Nat → Int} {a : Nat} {f g : Nat → Int} : upS (upS S a f) a g = upS S a g := by
  funext b
  unfold upS
  split <;> rfl
def upT (S : Nat → Nat → Int) (a : Nat) (f : Nat → Int) : Nat → Nat → Int := upS S a f
theorem upT_upS {S : Nat → Nat → Int} {a : Nat} {f : Nat → Int} : upT S a f = upS S a f := rfl
theorem upS_srt {S : Nat → Nat → Int} {a b : Nat} {f g : Nat → Int} (h : a < b) : upS (upS S b f) a g = upT (upS S a g) b f := by
  funext i
  unfold upT upS
  by_cases h1 : i = a
  · rw [if_pos h1, if_neg (by omega), if_pos h1]
  · by_cases h2 : i = b
    · rw [if_neg h1, if_pos h2, if_pos h2]
    · rw [if_neg h1, if_neg h2, if_neg h2, if_neg h1]
theorem upS_same {S : Nat → Nat → Int} {a : Nat} {f : Nat → Int} (h : f = S a) : upS S a f = S := by
  subst h
  funext b
  unfold upS
  split
  · rename_i e
    rw [e]
  · rfl
theorem px_ifp {c : Prop} {_ : Decidable c} {A B : Prop} (h : c) : (if c then A else B) = A := if_pos h
theorem px_ifn {c : Prop} {_ : Decidable c} {A B : Prop} (h : ¬ c) : (if c then A else B) = B := if_neg h
theorem px_ite {c : Prop} {_ : Decidable c} {A B : Prop} (h1 : c → A) (h2 : ¬ c → B) : if c then A else B := by
  split
  · rename_i h
    exact h1 h
  · rename_i h
    exact h2 h
theorem upz_eq {f : Nat → Int} {k : Nat} {x : Int} : upz f k x k = x := if_pos rfl
theorem upz_ne {f : Nat → Int} {k j : Nat} {x : Int} (h : j ≠ k) : upz f k x j = f j := if_neg h
theorem upz_up {f : Nat → Int} {k : Nat} {x y : Int} : upz (upz f k x) k y = upz f k y := by
  funext j
  unfold upz
  split <;> rfl
def upy (f : Nat → Int) (k : Nat) (x : Int) : Nat → Int := upz f k x
theorem upy_upz {f : Nat → Int} {k : Nat} {x : Int} : upy f k x = upz f k x := rfl
theorem upz_srt {f : Nat → Int} {k j : Nat} {x y : Int} (h : k < j) : upz (upz f j x) k y = upy (upz f k y) j x := by
  funext i
  unfold upy upz
  by_cases h1 : i = k
  · rw [if_pos h1, if_neg (by omega), if_pos h1]
  · by_cases h2 : i = j
    · rw [if_neg h1, if_pos h2, if_pos h2]
    · rw [if_neg h1, if_neg h2, if_neg h2, if_neg h1]
theorem upz_same {f : Nat → Int} {k : Nat} {x : Int} (h : x = f k) : upz f k x = f := by
  subst h
  funext j
  unfold upz
  split
  · rename_i e
    rw [e]
  · rfl
theorem zp_at {T : Nat → Nat × Nat} {S : Nat → Nat → Int} {c : pm_M × pm_C} {a : Nat} {F : Nat → Int} {e : pm_E} (h : zc (T a) a F = some e) : pm_put (zh T S c) a e = zh T (upS S a F) c := by
  unfold pm_put zh
  congr 1
  funext b
  dsimp only
  by_cases hb : b = a
  · subst hb
    rw [if_pos rfl, upS_eq, h]
  · rw [if_neg hb, upS_ne hb]
theorem zp_1 {T : Nat → Nat × Nat} {S : Nat → Nat → Int} {c : pm_M × pm_C} {a : Nat} {F : Nat → Int} (h : T a = (1, 0)) : pm_put (zh T S c) a (o0 a F) = zh T (upS S a F) c := zp_at (by rw [h]; rfl)
theorem zp_2 {T : Nat → Nat × Nat} {S : Nat → Nat → Int} {c : pm_M × pm_C} {a : Nat} {F : Nat → Int} (h : T a = (2, 0)) : pm_put (zh T S c) a (o1 a F) = zh T (upS S a F) c := zp_at (by rw [h]; rfl)
theorem zp_3 {T : Nat → Nat × Nat} {S : Nat → Nat → Int} {c : pm_M × pm_C} {a : Nat} {F : Nat → Int} (h : T a = (3, 0)) : pm_put (zh T S c) a (o2 a F) = zh T (upS S a F) c := zp_at (by rw [h]; rfl)
theorem zp_4 {T : Nat → Nat × Nat} {S : Nat → Nat → Int} {c : pm_M × pm_C} {a : Nat} {F : Nat → Int} (h : T a = (4, 0)) : pm_put (zh T S c) a (o3 a F) = zh T (upS S a F) c := zp_at (by rw [h]; rfl)
theorem zp_5 {T : Nat → Nat × Nat} {S : Nat → Nat → Int} {c : pm_M × pm_C} {a : Nat} {F : Nat → Int} (h : T a = (5, 0)) : pm_put (zh T S c) a (o4 a F) = zh T (upS S a F) c := zp_at (by rw [h]; rfl)
theorem zp_6 {T : Nat → Nat × Nat} {S : Nat → Nat → Int} {c : pm_M × pm_C} {a : Nat} {F : Nat → Int} (h : T a = (6, 0)) : pm_put (zh T S c) a (o5 a F) = zh T (upS S a F) c := zp_at (by rw [h]; rfl)
theorem zp_7 {T : Nat → Nat × Nat} {S : Nat → Nat → Int} {c : pm_M × pm_C} {a : Nat} {F : Nat → Int} (h : T a = (7, 0)) : pm_put (zh T S c) a (o6 a F) = zh T (upS S a F) c := zp_at (by rw [h]; rfl)
theorem zp_8 {T : Nat → Nat × Nat} {S : Nat → Nat → Int} {c : pm_M × pm_C} {a : Nat} {F : Nat → Int} (h : T a = (8, 0)) : pm_put (zh T S c) a (o7 a F) = zh T (upS S a F) c := zp_at (by rw [h]; rfl)
theorem zp_9 {T : Nat → Nat × Nat} {S : Nat → Nat → Int} {c : pm_M × pm_C} {a : Nat} {F : Nat → Int} (h : T a = (9, 0)) : pm_put (zh T S c) a (o8 a F) = zh T (upS S a F) c := zp_at (by rw [h]; rfl)
theorem zp_10 {T : Nat → Nat × Nat} {S : Nat → Nat → Int} {c : pm_M × pm_C} {a : Nat} {F : Nat → Int} (h : T a = (10, 0)) : pm_put (zh T S c) a (o9 a F) = zh T (upS S a F) c := zp_at (by rw [h]; rfl)
theorem zp_11 {T : Nat → Nat × Nat} {S : Nat → Nat → Int} {c : pm_M × pm_C} {a : Nat} {F : Nat → Int} (h : T a = (11, 0)) : pm_put (zh T S c) a (o10 a F) = zh T (upS S a F) c := zp_at (by rw [h]; rfl)
theorem zp_12 {T : Nat → Nat × Nat} {S : Nat → Nat → Int} {c : pm_M × pm_C} {a : Nat} {F : Nat → Int} (h : T a = (12, 0)) : pm_put (zh T S c) a (o11 a F) = zh T (upS S a F) c := zp_at (by rw [h]; rfl)
theorem zo_1 {T : Nat → Nat × Nat} {S : Nat → Nat → Int} {c : pm_M × pm_C} {a n : Nat} (h : T a = (1, n)) : (zh T S c).1 a = some (o0 a (S a)) := by rw [zh_1, h]; rfl
theorem zo_2 {T : Nat → Nat × Nat} {S : Nat → Nat → Int} {c : pm_M × pm_C} {a n : Nat} (h : T a = (2, n)) : (zh T S c).1 a = some (o1 a (S a)) := by rw [zh_1, h]; rfl
theorem zo_3 {T : Nat → Nat × Nat} {S : Nat → Nat → Int} {c : pm_M × pm_C} {a n : Nat} (h : T a = (3, n)) : (zh T S c).1 a = some (o2 a (S a)) := by rw [zh_1, h]; rfl
theorem zo_4 {T : Nat → Nat × Nat} {S : Nat → Nat → Int} {c : pm_M × pm_C} {a n : Nat} (h : T a = (4, n)) : (zh T S c).1 a = some (o3 a (S a)) := by rw [zh_1, h]; rfl
theorem zo_5 {T : Nat → Nat × Nat} {S : Nat → Nat → Int} {c : pm_M × pm_C} {a n : Nat} (h : T a = (5, n)) : (zh T S c).1 a = some (o4 a (S a)) := by rw [zh_1, h]; rfl
theorem zo_6 {T : Nat → Nat × Nat} {S : Nat → Nat → Int} {c : pm_M × pm_C} {a n : Nat} (h : T a = (6, n)) : (zh T S c).1 a = some (o5 a (S a)) := by rw [zh_1, h]; rfl
theorem zo_7 {T : Nat → Nat × Nat} {S : Nat → Nat → Int} {c : pm_M × pm_C} {a n : Nat} (h : T a = (7, n)) : (zh T S c).1 a = some (o6 a (S a)) := by rw [zh_1, h]; rfl
theorem zo_8 {T : Nat → Nat × Nat} {S : Nat → Nat → Int} {c : pm_M × pm_C} {a n : Nat} (h : T a = (8, n)) : (zh T S c).1 a = some (o7 a (S a)) := by rw [zh_1, h]; rfl
theorem zo_9 {T : Nat → Nat × Nat} {S : Nat → Nat → Int} {c : pm_M × pm_C} {a n : Nat} (h : T a = (9, n)) : (zh T S c).1 a = some (o8 a (S a)) := by rw [zh_1, h]; rfl
theorem zo_10 {T : Nat → Nat × Nat} {S : Nat → Nat → Int} {c : pm_M × pm_C} {a n : Nat} (h : T a = (10, n)) : (zh T S c).1 a = some (o9 a (S a)) := by rw [zh_1, h]; rfl
theorem zo_11 {T : Nat → Nat × Nat} {S : Nat → Nat → Int} {c : pm_M × pm_C} {a n : Nat} (h : T a = (11, n)) : (zh T S c).1 a = some (o10 a (S a)) := by rw [zh_1, h]; rfl
theorem zo_12 {T : Nat → Nat × Nat} {S : Nat → Nat → Int} {c : pm_M × pm_C} {a n : Nat} (h : T a = (12, n)) : (zh T S c).1 a = some (o11 a (S a)) := by rw [zh_1, h]; rfl
theorem zo_20 {T : Nat → Nat × Nat} {S : Nat → Nat → Int} {c : pm_M × pm_C} {a n : Nat} (h : T a = (20, n)) : (zh T S c).1 a = some (aI 0 n (S a)) := by rw [zh_1, h]; rfl
theorem zo_21 {T : Nat → Nat × Nat} {S : Nat → Nat → Int} {c : pm_M × pm_C} {a n : Nat} (h : T a = (21, n)) : (zh T S c).1 a = some (aI 1 n (S a)) := by rw [zh_1, h]; rfl
theorem zo_22 {T : Nat → Nat × Nat} {S : Nat → Nat → Int} {c : pm_M × pm_C} {a n : Nat} (h : T a = (22, n)) : (zh T S c).1 a = some (aI 2 n (S a)) := by rw [zh_1, h]; rfl
theorem zp_20 {T : Nat → Nat × Nat} {S : Nat → Nat → Int} {c : pm_M × pm_C} {a n : Nat} {F : Nat → Int} (h : T a = (20, n)) : pm_put (zh T S c) a (aI 0 n F) = zh T (upS S a F) c := zp_at (by rw [h]; rfl)
theorem zp_21 {T : Nat → Nat × Nat} {S : Nat → Nat → Int} {c : pm_M × pm_C} {a n : Nat} {F : Nat → Int} (h : T a = (21, n)) : pm_put (zh T S c) a (aI 1 n F) = zh T (upS S a F) c := zp_at (by rw [h]; rfl)
theorem zp_22 {T : Nat → Nat × Nat} {S : Nat → Nat → Int} {c : pm_M × pm_C} {a n : Nat} {F : Nat → Int} (h : T a = (22, n)) : pm_put (zh T S c) a (aI 2 n F) = zh T (upS S a F) c := zp_at (by rw [h]; rfl)
def ly0 (T : Nat → Nat × Nat) (q : Nat) : Prop := T q = (1, 0) ∧ T (q + 1) = (21, 10) ∧ T (q + 2) = (20, 10) ∧ T (q + 3) = (20, 7) ∧ T (q + 4) = (26, 7) ∧ T (q + 5) = (20, 7) ∧ T (q + 6) = (20, 7) ∧ T (q + 7) = (20, 7) ∧ T (q + 8) = (20, 7) ∧ T (q + 9) = (20, 7) ∧ T (q + 10) = (20, 7) ∧ T (q + 11) = (20, 7) ∧ T (q + 12) = (20, 128)
def ly1 (T : Nat → Nat × Nat) (q : Nat) : Prop := T q = (2, 0)
def ly2 (T : Nat → Nat × Nat) (q : Nat) : Prop := T q = (3, 0) ∧ T (q + 1) = (20, 12) ∧ T (q + 2) = (21, 12)
def ly3 (T : Nat → Nat × Nat) (q : Nat) : Prop := T q = (4, 0) ∧ T (q + 1) = (20, 500) ∧ T (q + 2) = (20, 500)
def ly4 (T : Nat → Nat × Nat) (q : Nat) : Prop := T q = (5, 0) ∧ T (q + 1) = (20, 10) ∧ T (q + 2) = (20, 10) ∧ T (q + 3) = (20, 10) ∧ T (q + 4) = (20, 10) ∧ T (q + 5) = (20, 10) ∧ T (q + 6) = (20, 10) ∧ T (q + 7) = (20, 10)
def ly5 (T : Nat → Nat × Nat) (q : Nat) : Prop := T q = (6, 0) ∧ T (q + 1) = (21, 10) ∧ T (q + 2) = (21, 10)
def ly7 (T : Nat → Nat × Nat) (q : Nat) : Prop := T q = (8, 0) ∧ T (q + 1) = (20, 64) ∧ T (q + 2) = (20, 64) ∧ T (q + 3) = (20, 64) ∧ T (q + 4) = (20, 64) ∧ T (q + 5) = (20, 64) ∧ T (q + 6) = (20, 64) ∧ T (q + 7) = (20, 64) ∧ T (q + 8) = (21, 64)
def ly8 (T : Nat → Nat × Nat) (q : Nat) : Prop := T q = (9, 0) ∧ T (q + 1) = (20, 14) ∧ T (q + 2) = (20, 14) ∧ T (q + 3) = (20, 3) ∧ T (q + 4) = (20, 12) ∧ T (q + 5) = (20, 48)
def ly9 (T : Nat → Nat × Nat) (q : Nat) : Prop := T q = (10, 0) ∧ T (q + 1) = (22, 500)
def ly11 (T : Nat → Nat × Nat) (q : Nat) : Prop := T q = (12, 0) ∧ T (q + 1) = (25, 4) ∧ T (q + 2) = (20, 14) ∧ T (q + 3) = (20, 20) ∧ T (q + 4) = (20, 20) ∧ T (q + 5) = (20, 20) ∧ T (q + 6) = (20, 20) ∧ T (q + 7) = (20, 20) ∧ T (q + 8) = (20, 20) ∧ T (q + 9) = (20, 3) ∧ T (q + 10) = (20, 500) ∧ T (q + 11) = (20, 500) ∧ T (q + 12) = (20, 2) ∧ T (q + 13) = (20, 2) ∧ T (q + 14) = (20, 128) ∧ T (q + 15) = (20, 128) ∧ T (q + 16) = (20, 128) ∧ T (q + 17) = (20, 128) ∧ T (q + 18) = (20, 128) ∧ T (q + 19) = (20, 128) ∧ T (q + 20) = (20, 64) ∧ T (q + 21) = (20, 64) ∧ T (q + 22) = (20, 16) ∧ T (q + 23) = (20, 4) ∧ T (q + 24) = (20, 4) ∧ T (q + 25) = (20, 70) ∧ T (q + 26) = (20, 7) ∧ T (q + 27) = (20, 7) ∧ T (q + 28) = (20, 10) ∧ T (q + 29) = (20, 48) ∧ T (q + 30) = (20, 12) ∧ T (q + 31) = (20, 12) ∧ T (q + 32) = (20, 16) ∧ T (q + 33) = (20, 48) ∧ T (q + 34) = (20, 12) ∧ T (q + 35) = (20, 3)
def ly6 (T : Nat → Nat × Nat) (q : Nat) : Prop := T q = (7, 0) ∧ T (q + 1) = (20, 4) ∧ T (q + 2) = (20, 4) ∧ T (q + 3) = (20, 4) ∧ T (q + 4) = (24, 5) ∧ T (q + 5) = (21, 170) ∧ ly1 T (q + 6) ∧ ly4 T (q + 15) ∧ ly7 T (q + 23) ∧ ly7 T (q + 32) ∧ ly7 T (q + 41) ∧ ly7 T (q + 50) ∧ ly7 T (q + 59) ∧ ly7 T (q + 68)
def ly10 (T : Nat → Nat × Nat) (q : Nat) : Prop := T q = (11, 0) ∧ ly9 T (q + 1) ∧ ly5 T (q + 3) ∧ ly3 T (q + 6) ∧ ly4 T (q + 9) ∧ ly4 T (q + 17) ∧ ly7 T (q + 25) ∧ ly8 T (q + 34) ∧ ly8 T (q + 40) ∧ ly1 T (q + 46) ∧ ly6 T (q + 55) ∧ ly0 T (q + 132) ∧ ly2 T (q + 145)
/-- a method ends with a value and the heap as S' -/
def zQ (T : Nat → Nat × Nat) (c : pm_M × pm_C) (P : Option Value → (Nat → Nat → Int) → Prop) : pm_O → pm_H → Prop := fun o h => ∃ (v : Option Value) (S' : Nat → Nat → Int), o = .inl v ∧ h = zh T S' c ∧ P v S'
theorem zQ_in {T : Nat → Nat × Nat} {c : pm_M × pm_C} {P : Option Value → (Nat → Nat → Int) → Prop} {v : Option Value} {S' : Nat → Nat → Int} (h : P v S') : zQ T c P (.inl v) (zh T S' c) := ⟨v, S', rfl, rfl, h⟩
def zR (d tm : Nat) (ls : List Value) (T : Nat → Nat × Nat) (S : Nat → Nat → Int) (c : pm_M × pm_C) (P : Option Value → (Nat → Nat → Int) → Prop) : Prop := ∃ (v : Option Value) (S' : Nat → Nat → Int), px_R d tm ls (zh T S c) (.inl v) (zh T S' c) ∧ P v S'
theorem zR_of {d tm : Nat} {ls : List Value} {T : Nat → Nat × Nat} {S : Nat → Nat → Int} {c : pm_M × pm_C} {P : Option Value → (Nat → Nat → Int) → Prop} (k : px_Ev d tm 0 ls [] (zh T S c) (zQ T c P)) : zR d tm ls T S c P := by
  obtain ⟨n, o, h, hg, v, S', rfl, rfl, hp⟩ := k
  exact ⟨v, S', ⟨n, hg⟩, hp⟩
/-- a counted loop: from i on, by what holds for all later ones -/
theorem lp_up {P : Nat → Prop} {n : Nat} (H : ∀ i, i ≤ n → (∀ j, i < j → j ≤ n → P j) → P i) : ∀ i, i ≤ n → P i := by
  intro i hi
  have key : ∀ t i, i ≤ n → n - i ≤ t → P i := by
    intro t
    induction t with
    | zero => intro i hi ht; exact H i hi (fun j h1 h2 => by omega)
    | succ t ih => intro i hi ht; exact H i hi (fun j h1 h2 => ih j h2 (by omega))
  exact key _ i hi (Nat.le_refl _)
def mx0 (x : Int) : Int := if 0 < x then x else 0
def ab (x : Int) : Int := if 0 ≤ x then x else -x
theorem zI_and3 {x : Int} (h : 0 ≤ x ∧ x ≤ 7) : zI x &&& zI 3 = zI (x % 4) := by
  rcases (show x = 0 ∨ x = 1 ∨ x = 2 ∨ x = 3 ∨ x = 4 ∨ x = 5 ∨ x = 6 ∨ x = 7 by omega) with rfl | rfl | rfl | rfl | rfl | rfl | rfl | rfl <;> decide
/-- division and remainder as they are in Java -/
theorem zI_tdiv {x y : Int} (h : (-2147483647 ≤ x ∧ x ≤ 2147483647) ∧ -2147483648 ≤ y ∧ y ≤ 2147483647) : zI x / zI y = zI (x.tdiv y) := by
  have hx : (zI x).toInt = x := zI_toInt (by omega)
  have hy : (zI y).toInt = y := zI_toInt (by omega)
  have h1 : (x.tdiv y).natAbs ≤ x.natAbs := by
    rw [Int.natAbs_tdiv]
    exact Nat.div_le_self _ _
  apply Int32.toInt_inj.mp
  rw [Int32.toInt_div, hx, hy, zI_toInt (by omega)]
  exact Int.bmod_eq_of_le (by omega) (by omega)
theorem zI_tmod {x y : Int} (h : (-2147483647 ≤ x ∧ x ≤ 2147483647) ∧ -2147483648 ≤ y ∧ y ≤ 2147483647) : zI x - zI x / zI y * zI y = zI (x.tmod y) := by
  rw [zI_tdiv h, zI_mul, zI_sub]
  congr 1
  have := Int.mul_tdiv_add_tmod x y
  rw [Int.mul_comm] at this
  omega
theorem zI_ne0 {y : Int} (h : y ≠ 0 ∧ -2147483648 ≤ y ∧ y ≤ 2147483647) : ¬ zI y = 0 := by
  rw [zI_0, zI_eq (by omega)]
  exact h.1
