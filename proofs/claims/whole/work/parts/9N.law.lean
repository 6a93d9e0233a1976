/-! THE LAW, 1: a helper that calls the face and catches -/
theorem i64_of {x : Int32} : Int64.ofInt x.toInt = x.toInt64 := by
  have h1 := Int32.le_toInt x
  have h2 := Int32.toInt_lt x
  refine Int64.toInt_inj.mp ?_
  rw [Int32.toInt_toInt64, Int64.toInt_ofInt_of_le (by omega) (by omega)]
section LAW
variable {T : Nat → Nat × Nat} {S : Nat → Nat → Int} {c : pm_M × pm_C} {x a : Nat}
/-- a long is stored -/
theorem zp_23 {v : Int32} {n : Nat} (ha : T a = (23, n)) : pm_put (zh T S c) a (.inl (3, n, .inr (.inl (vp_updL (fun j => Int64.ofInt (S a j)) 0 v.toInt64)))) = zh T (upS S a (upz (S a) 0 v.toInt)) c := by
  refine zp_at ?_
  rw [ha]
  show some (Sum.inl (3, n, Sum.inr (Sum.inl (fun j => Int64.ofInt (upz (S a) 0 v.toInt j))))) = _
  congr 6
  funext j
  unfold vp_updL upz
  by_cases e : j = 0
  · rw [if_pos e, if_pos e, i64_of]
  · rw [if_neg e, if_neg e]
theorem L_school_v {n v : Int} {S' : Nat → Nat → Int} (ha : T a = (23, 1)) (hx : T x = (11, 0)) (h : px_R 9 103 [.ref x, .int (zI n), .retAddr 0] (zh T S c) (.inl (some (.int (zI v)))) (zh T S' c)) : px_R 10 208 [.ref x, .int (zI n), .ref a, .retAddr 0] (zh T S c) (.inl (some (.int (zI 0)))) (zh T (upS S' a (upz (S' a) 0 (zI v).toInt)) c) := by
  refine px_ofQ fun Q hQ => ?_
  rw [el_L_school_0, el_L_school_1, el_L_school_2, el_L_school_3, el_L_school_4 h (by decide) (zo_11 hx) rfl]
  rw [show (some (Value.int (zI v))).toList ++ [Value.int (zI 0), Value.ref a] = [Value.int (zI v), Value.int (zI 0), Value.ref a] from rfl, el_L_school_7]
  rw [el_L_school_8 (n := 1) (f := fun j => Int64.ofInt (S' a j)) (by rw [zh_1, ha]; rfl) (by decide)]
  rw [show (0 : Int).toNat = 0 from rfl, zp_23 ha, el_L_school_9, el_L_school_15, el_L_school_16]
  exact hQ
theorem L_school_x {n : Int} {S' : Nat → Nat → Int} (ha : T a = (23, 1)) (hx : T x = (11, 0)) (h : px_R 9 103 [.ref x, .int (zI n), .retAddr 0] (zh T S c) (.inr iae) (zh T S' (thc c))) : px_R 10 208 [.ref x, .int (zI n), .ref a, .retAddr 0] (zh T S c) (.inl (some (.int (zI 1)))) (zh T S' (thc c)) := by
  refine px_ofQ fun Q hQ => ?_
  rw [el_L_school_0, el_L_school_1, el_L_school_2, el_L_school_3, el_L_school_4x h (by decide) (zo_11 hx) rfl]
  show px_Ev 10 208 13 [.ref x, .int (zI n), .ref a, .retAddr 0] [] _ Q
  rw [el_L_school_13, el_L_school_14]
  exact hQ
end LAW
