/-! CONSTRUCTORS: what lies there while an object is made -/
def upC (T : Nat → Nat × Nat) (a : Nat) (t : Nat × Nat) : Nat → Nat × Nat := fun b => if b = a then t else T b
theorem upC_eq {T : Nat → Nat × Nat} {a : Nat} {t : Nat × Nat} : upC T a t a = t := if_pos rfl
theorem upC_ne {T : Nat → Nat × Nat} {a b : Nat} {t : Nat × Nat} (h : b ≠ a) : upC T a t b = T b := if_neg h
/-- one cell more -/
def nc (c : pm_M × pm_C) (n : Nat) : pm_M × pm_C := ((c.1.1, c.1.2.1 + 1, c.1.2.2.1 + 1, c.1.2.2.2 + n), c.2)
theorem zn_at {T : Nat → Nat × Nat} {S : Nat → Nat → Int} {c : pm_M × pm_C} {t : Nat × Nat} {F : Nat → Int} {e : pm_E} {n : Nat} (h : zc t c.1.2.1 F = some e) : pm_new (zh T S c) e n = zh (upC T c.1.2.1 t) (upS S c.1.2.1 F) (nc c n) := by
  unfold pm_new zh nc
  congr 1
  funext b
  change (if b = c.1.2.1 then some e else zc (T b) b (S b)) = _
  by_cases hb : b = c.1.2.1
  · rw [if_pos hb, hb, upC_eq, upS_eq, h]
  · rw [if_neg hb, upC_ne hb, upS_ne hb]
theorem nc_s {c : pm_M × pm_C} {n : Nat} : (nc c n).1.2.1 = c.1.2.1 + 1 := rfl
theorem nc_g {c : pm_M × pm_C} {n : Nat} : (nc c n).1.1 = c.1.1 := rfl
theorem zs_h {T : Nat → Nat × Nat} {S : Nat → Nat → Int} {c : pm_M × pm_C} : pm_size (zh T S c) = c.1.2.1 := rfl
theorem zg_h {T : Nat → Nat × Nat} {S : Nat → Nat → Int} {c : pm_M × pm_C} : pm_gap (zh T S c) = c.1.1 := rfl
theorem rz_nat {a : Nat} : rz (a : Int) = .ref a := by
  unfold rz
  rw [if_neg (by omega), Int.toNat_natCast]
theorem rz_pos {x : Int} (h : 0 ≤ x) : rz x = .ref x.toNat := if_neg (by omega)
theorem zn_20 {T : Nat → Nat × Nat} {S : Nat → Nat → Int} {c : pm_M × pm_C} {n m : Nat} : pm_new (zh T S c) (aI 0 n (fun _ => 0)) m = zh (upC T c.1.2.1 (20, n)) (upS S c.1.2.1 (fun _ => 0)) (nc c m) := zn_at rfl
theorem zn_21 {T : Nat → Nat × Nat} {S : Nat → Nat → Int} {c : pm_M × pm_C} {n m : Nat} : pm_new (zh T S c) (aI 1 n (fun _ => 0)) m = zh (upC T c.1.2.1 (21, n)) (upS S c.1.2.1 (fun _ => 0)) (nc c m) := zn_at rfl
theorem zn_22 {T : Nat → Nat × Nat} {S : Nat → Nat → Int} {c : pm_M × pm_C} {n m : Nat} : pm_new (zh T S c) (aI 2 n (fun _ => 0)) m = zh (upC T c.1.2.1 (22, n)) (upS S c.1.2.1 (fun _ => 0)) (nc c m) := zn_at rfl
/-- a new object of class 0 -/
def df0 : Nat → Int := fun k => if k = 0 ∨ k = 1 ∨ k = 2 ∨ k = 4 ∨ k = 5 then -1 else 0
theorem zn_40 {T : Nat → Nat × Nat} {S : Nat → Nat → Int} {c : pm_M × pm_C} {m : Nat} : pm_new (zh T S c) (.inr (0, [.null, .null, .null, .int 0, .null, .null])) m = zh (upC T c.1.2.1 (40, 0)) (upS S c.1.2.1 df0) (nc c m) := zn_at rfl
theorem zc_40 {n q : Nat} {F : Nat → Int} : zc (40, n) q F = some (r0 F) := rfl
theorem zo_40 {T : Nat → Nat × Nat} {S : Nat → Nat → Int} {c : pm_M × pm_C} {a n : Nat} (h : T a = (40, n)) : (zh T S c).1 a = some (r0 (S a)) := by rw [zh_1, h]; rfl
theorem zp_40 {T : Nat → Nat × Nat} {S : Nat → Nat → Int} {c : pm_M × pm_C} {a : Nat} {F : Nat → Int} (h : T a = (40, 0)) : pm_put (zh T S c) a (r0 F) = zh T (upS S a F) c := zp_at (by rw [h]; rfl)
theorem rgf_0_0 {F : Nat → Int} {K : Value → Prop} : px_gf (some (r0 F)) 0 0 K = K (rz (F 0)) := rfl
theorem rpf_0_0 {F : Nat → Int} {a : Nat} {K : pm_E → Prop} : px_pf (some (r0 F)) ps_okR 0 0 (.ref a) K = K (r0 (upz F 0 a)) := by
  have e : r0 (upz F 0 a) = .inr (0, [.ref a, rz (F 1), rz (F 2), .int (zI (F 3)), rz (F 4), rz (F 5)]) := by
    rw [← rz_nat (a := a)]
    rfl
  exact (show px_pf (some (r0 F)) ps_okR 0 0 (.ref a) K = K (.inr (0, [.ref a, rz (F 1), rz (F 2), .int (zI (F 3)), rz (F 4), rz (F 5)])) from rfl).trans (congrArg K e.symm)
theorem rgf_0_1 {F : Nat → Int} {K : Value → Prop} : px_gf (some (r0 F)) 0 1 K = K (rz (F 1)) := rfl
theorem rpf_0_1 {F : Nat → Int} {a : Nat} {K : pm_E → Prop} : px_pf (some (r0 F)) ps_okR 0 1 (.ref a) K = K (r0 (upz F 1 a)) := by
  have e : r0 (upz F 1 a) = .inr (0, [rz (F 0), .ref a, rz (F 2), .int (zI (F 3)), rz (F 4), rz (F 5)]) := by
    rw [← rz_nat (a := a)]
    rfl
  exact (show px_pf (some (r0 F)) ps_okR 0 1 (.ref a) K = K (.inr (0, [rz (F 0), .ref a, rz (F 2), .int (zI (F 3)), rz (F 4), rz (F 5)])) from rfl).trans (congrArg K e.symm)
theorem rgf_0_2 {F : Nat → Int} {K : Value → Prop} : px_gf (some (r0 F)) 0 2 K = K (rz (F 2)) := rfl
theorem rpf_0_2 {F : Nat → Int} {a : Nat} {K : pm_E → Prop} : px_pf (some (r0 F)) ps_okR 0 2 (.ref a) K = K (r0 (upz F 2 a)) := by
  have e : r0 (upz F 2 a) = .inr (0, [rz (F 0), rz (F 1), .ref a, .int (zI (F 3)), rz (F 4), rz (F 5)]) := by
    rw [← rz_nat (a := a)]
    rfl
  exact (show px_pf (some (r0 F)) ps_okR 0 2 (.ref a) K = K (.inr (0, [rz (F 0), rz (F 1), .ref a, .int (zI (F 3)), rz (F 4), rz (F 5)])) from rfl).trans (congrArg K e.symm)
theorem rgf_0_3 {F : Nat → Int} {K : Value → Prop} : px_gf (some (r0 F)) 0 3 K = K (.int (zI (F 3))) := rfl
theorem rpf_0_3 {F : Nat → Int} {x : Int} {K : pm_E → Prop} : px_pf (some (r0 F)) ps_okI 0 3 (.int (zI x)) K = K (r0 (upz F 3 x)) := rfl
theorem rgf_0_4 {F : Nat → Int} {K : Value → Prop} : px_gf (some (r0 F)) 0 4 K = K (rz (F 4)) := rfl
theorem rpf_0_4 {F : Nat → Int} {a : Nat} {K : pm_E → Prop} : px_pf (some (r0 F)) ps_okR 0 4 (.ref a) K = K (r0 (upz F 4 a)) := by
  have e : r0 (upz F 4 a) = .inr (0, [rz (F 0), rz (F 1), rz (F 2), .int (zI (F 3)), .ref a, rz (F 5)]) := by
    rw [← rz_nat (a := a)]
    rfl
  exact (show px_pf (some (r0 F)) ps_okR 0 4 (.ref a) K = K (.inr (0, [rz (F 0), rz (F 1), rz (F 2), .int (zI (F 3)), .ref a, rz (F 5)])) from rfl).trans (congrArg K e.symm)
theorem rgf_0_5 {F : Nat → Int} {K : Value → Prop} : px_gf (some (r0 F)) 0 5 K = K (rz (F 5)) := rfl
theorem rpf_0_5 {F : Nat → Int} {a : Nat} {K : pm_E → Prop} : px_pf (some (r0 F)) ps_okR 0 5 (.ref a) K = K (r0 (upz F 5 a)) := by
  have e : r0 (upz F 5 a) = .inr (0, [rz (F 0), rz (F 1), rz (F 2), .int (zI (F 3)), rz (F 4), .ref a]) := by
    rw [← rz_nat (a := a)]
    rfl
  exact (show px_pf (some (r0 F)) ps_okR 0 5 (.ref a) K = K (.inr (0, [rz (F 0), rz (F 1), rz (F 2), .int (zI (F 3)), rz (F 4), .ref a])) from rfl).trans (congrArg K e.symm)
theorem zf_0 {T : Nat → Nat × Nat} {S : Nat → Nat → Int} {c : pm_M × pm_C} {q n : Nat} (h : T q = (40, n)) (h0 : S q 0 = ((q + 1 : Nat) : Int)) (h1 : S q 1 = ((q + 2 : Nat) : Int)) (h2 : S q 2 = ((q + 3 : Nat) : Int)) (h4 : S q 4 = ((q + 4 : Nat) : Int)) (h5 : S q 5 = ((q + 12 : Nat) : Int)) : zh T S c = zh (upC T q (1, 0)) S c := by
  unfold zh
  congr 1
  funext b
  by_cases hb : b = q
  · subst hb
    rw [upC_eq, h]
    change some (r0 (S b)) = some (o0 b (S b))
    unfold r0 o0
    simp only [rz_nat, h0, h1, h2, h4, h5]
  · rw [upC_ne hb]
/-- a new object of class 1 -/
def df1 : Nat → Int := fun k => if k = 6 then -1 else 0
theorem zn_41 {T : Nat → Nat × Nat} {S : Nat → Nat → Int} {c : pm_M × pm_C} {m : Nat} : pm_new (zh T S c) (.inr (1, [.int 0, .int 0, .int 0, .int 0, .int 0, .int 0, .null, .int 0, .int 0])) m = zh (upC T c.1.2.1 (41, 0)) (upS S c.1.2.1 df1) (nc c m) := zn_at rfl
theorem zc_41 {n q : Nat} {F : Nat → Int} : zc (41, n) q F = some (r1 F) := rfl
theorem zo_41 {T : Nat → Nat × Nat} {S : Nat → Nat → Int} {c : pm_M × pm_C} {a n : Nat} (h : T a = (41, n)) : (zh T S c).1 a = some (r1 (S a)) := by rw [zh_1, h]; rfl
theorem zp_41 {T : Nat → Nat × Nat} {S : Nat → Nat → Int} {c : pm_M × pm_C} {a : Nat} {F : Nat → Int} (h : T a = (41, 0)) : pm_put (zh T S c) a (r1 F) = zh T (upS S a F) c := zp_at (by rw [h]; rfl)
theorem rgf_1_0 {F : Nat → Int} {K : Value → Prop} : px_gf (some (r1 F)) 1 0 K = K (.int (zI (F 0))) := rfl
theorem rpf_1_0 {F : Nat → Int} {x : Int} {K : pm_E → Prop} : px_pf (some (r1 F)) ps_okI 1 0 (.int (zI x)) K = K (r1 (upz F 0 x)) := rfl
theorem rgf_1_1 {F : Nat → Int} {K : Value → Prop} : px_gf (some (r1 F)) 1 1 K = K (.int (zI (F 1))) := rfl
theorem rpf_1_1 {F : Nat → Int} {x : Int} {K : pm_E → Prop} : px_pf (some (r1 F)) ps_okI 1 1 (.int (zI x)) K = K (r1 (upz F 1 x)) := rfl
theorem rgf_1_2 {F : Nat → Int} {K : Value → Prop} : px_gf (some (r1 F)) 1 2 K = K (.int (zI (F 2))) := rfl
theorem rpf_1_2 {F : Nat → Int} {x : Int} {K : pm_E → Prop} : px_pf (some (r1 F)) ps_okI 1 2 (.int (zI x)) K = K (r1 (upz F 2 x)) := rfl
theorem rgf_1_3 {F : Nat → Int} {K : Value → Prop} : px_gf (some (r1 F)) 1 3 K = K (.int (zI (F 3))) := rfl
theorem rpf_1_3 {F : Nat → Int} {x : Int} {K : pm_E → Prop} : px_pf (some (r1 F)) ps_okI 1 3 (.int (zI x)) K = K (r1 (upz F 3 x)) := rfl
theorem rgf_1_4 {F : Nat → Int} {K : Value → Prop} : px_gf (some (r1 F)) 1 4 K = K (.int (zI (F 4))) := rfl
theorem rpf_1_4 {F : Nat → Int} {x : Int} {K : pm_E → Prop} : px_pf (some (r1 F)) ps_okI 1 4 (.int (zI x)) K = K (r1 (upz F 4 x)) := rfl
theorem rgf_1_5 {F : Nat → Int} {K : Value → Prop} : px_gf (some (r1 F)) 1 5 K = K (.int (zI (F 5))) := rfl
theorem rpf_1_5 {F : Nat → Int} {K : pm_E → Prop} : px_pf (some (r1 F)) ps_okZ 1 5 (.int (zI 0)) K = K (r1 (upz F 5 0)) := rfl
theorem rgf_1_6 {F : Nat → Int} {K : Value → Prop} : px_gf (some (r1 F)) 1 6 K = K (rz (F 6)) := rfl
theorem rpf_1_6 {F : Nat → Int} {a : Nat} {K : pm_E → Prop} : px_pf (some (r1 F)) ps_okR 1 6 (.ref a) K = K (r1 (upz F 6 a)) := by
  have e : r1 (upz F 6 a) = .inr (1, [.int (zI (F 0)), .int (zI (F 1)), .int (zI (F 2)), .int (zI (F 3)), .int (zI (F 4)), .int (zI (F 5)), .ref a, .int (zI (F 7)), .int (zI (F 8))]) := by
    rw [← rz_nat (a := a)]
    rfl
  exact (show px_pf (some (r1 F)) ps_okR 1 6 (.ref a) K = K (.inr (1, [.int (zI (F 0)), .int (zI (F 1)), .int (zI (F 2)), .int (zI (F 3)), .int (zI (F 4)), .int (zI (F 5)), .ref a, .int (zI (F 7)), .int (zI (F 8))])) from rfl).trans (congrArg K e.symm)
theorem rgf_1_7 {F : Nat → Int} {K : Value → Prop} : px_gf (some (r1 F)) 1 7 K = K (.int (zI (F 7))) := rfl
theorem rpf_1_7 {F : Nat → Int} {x : Int} {K : pm_E → Prop} : px_pf (some (r1 F)) ps_okI 1 7 (.int (zI x)) K = K (r1 (upz F 7 x)) := rfl
theorem rgf_1_8 {F : Nat → Int} {K : Value → Prop} : px_gf (some (r1 F)) 1 8 K = K (.int (zI (F 8))) := rfl
theorem rpf_1_8 {F : Nat → Int} {x : Int} {K : pm_E → Prop} : px_pf (some (r1 F)) ps_okI 1 8 (.int (zI x)) K = K (r1 (upz F 8 x)) := rfl
theorem zf_1 {T : Nat → Nat × Nat} {S : Nat → Nat → Int} {c : pm_M × pm_C} {q n : Nat} (h : T q = (41, n)) (h6 : 0 ≤ S q 6) : zh T S c = zh (upC T q (2, 0)) S c := by
  unfold zh
  congr 1
  funext b
  by_cases hb : b = q
  · subst hb
    rw [upC_eq, h]
    change some (r1 (S b)) = some (o1 b (S b))
    unfold r1 o1
    simp only [rz_nat, rz_pos h6]
  · rw [upC_ne hb]
/-- a new object of class 2 -/
def df2 : Nat → Int := fun k => if k = 1 ∨ k = 2 then -1 else 0
theorem zn_42 {T : Nat → Nat × Nat} {S : Nat → Nat → Int} {c : pm_M × pm_C} {m : Nat} : pm_new (zh T S c) (.inr (2, [.int 0, .null, .null])) m = zh (upC T c.1.2.1 (42, 0)) (upS S c.1.2.1 df2) (nc c m) := zn_at rfl
theorem zc_42 {n q : Nat} {F : Nat → Int} : zc (42, n) q F = some (r2 F) := rfl
theorem zo_42 {T : Nat → Nat × Nat} {S : Nat → Nat → Int} {c : pm_M × pm_C} {a n : Nat} (h : T a = (42, n)) : (zh T S c).1 a = some (r2 (S a)) := by rw [zh_1, h]; rfl
theorem zp_42 {T : Nat → Nat × Nat} {S : Nat → Nat → Int} {c : pm_M × pm_C} {a : Nat} {F : Nat → Int} (h : T a = (42, 0)) : pm_put (zh T S c) a (r2 F) = zh T (upS S a F) c := zp_at (by rw [h]; rfl)
theorem rgf_2_0 {F : Nat → Int} {K : Value → Prop} : px_gf (some (r2 F)) 2 0 K = K (.int (zI (F 0))) := rfl
theorem rpf_2_0 {F : Nat → Int} {x : Int} {K : pm_E → Prop} : px_pf (some (r2 F)) ps_okI 2 0 (.int (zI x)) K = K (r2 (upz F 0 x)) := rfl
theorem rgf_2_1 {F : Nat → Int} {K : Value → Prop} : px_gf (some (r2 F)) 2 1 K = K (rz (F 1)) := rfl
theorem rpf_2_1 {F : Nat → Int} {a : Nat} {K : pm_E → Prop} : px_pf (some (r2 F)) ps_okR 2 1 (.ref a) K = K (r2 (upz F 1 a)) := by
  have e : r2 (upz F 1 a) = .inr (2, [.int (zI (F 0)), .ref a, rz (F 2)]) := by
    rw [← rz_nat (a := a)]
    rfl
  exact (show px_pf (some (r2 F)) ps_okR 2 1 (.ref a) K = K (.inr (2, [.int (zI (F 0)), .ref a, rz (F 2)])) from rfl).trans (congrArg K e.symm)
theorem rgf_2_2 {F : Nat → Int} {K : Value → Prop} : px_gf (some (r2 F)) 2 2 K = K (rz (F 2)) := rfl
theorem rpf_2_2 {F : Nat → Int} {a : Nat} {K : pm_E → Prop} : px_pf (some (r2 F)) ps_okR 2 2 (.ref a) K = K (r2 (upz F 2 a)) := by
  have e : r2 (upz F 2 a) = .inr (2, [.int (zI (F 0)), rz (F 1), .ref a]) := by
    rw [← rz_nat (a := a)]
    rfl
  exact (show px_pf (some (r2 F)) ps_okR 2 2 (.ref a) K = K (.inr (2, [.int (zI (F 0)), rz (F 1), .ref a])) from rfl).trans (congrArg K e.symm)
theorem zf_2 {T : Nat → Nat × Nat} {S : Nat → Nat → Int} {c : pm_M × pm_C} {q n : Nat} (h : T q = (42, n)) (h1 : S q 1 = ((q + 1 : Nat) : Int)) (h2 : S q 2 = ((q + 2 : Nat) : Int)) : zh T S c = zh (upC T q (3, 0)) S c := by
  unfold zh
  congr 1
  funext b
  by_cases hb : b = q
  · subst hb
    rw [upC_eq, h]
    change some (r2 (S b)) = some (o2 b (S b))
    unfold r2 o2
    simp only [rz_nat, h1, h2]
  · rw [upC_ne hb]
/-- a new object of class 3 -/
def df3 : Nat → Int := fun k => if k = 1 ∨ k = 2 then -1 else 0
theorem zn_43 {T : Nat → Nat × Nat} {S : Nat → Nat → Int} {c : pm_M × pm_C} {m : Nat} : pm_new (zh T S c) (.inr (3, [.int 0, .null, .null])) m = zh (upC T c.1.2.1 (43, 0)) (upS S c.1.2.1 df3) (nc c m) := zn_at rfl
theorem zc_43 {n q : Nat} {F : Nat → Int} : zc (43, n) q F = some (r3 F) := rfl
theorem zo_43 {T : Nat → Nat × Nat} {S : Nat → Nat → Int} {c : pm_M × pm_C} {a n : Nat} (h : T a = (43, n)) : (zh T S c).1 a = some (r3 (S a)) := by rw [zh_1, h]; rfl
theorem zp_43 {T : Nat → Nat × Nat} {S : Nat → Nat → Int} {c : pm_M × pm_C} {a : Nat} {F : Nat → Int} (h : T a = (43, 0)) : pm_put (zh T S c) a (r3 F) = zh T (upS S a F) c := zp_at (by rw [h]; rfl)
theorem rgf_3_0 {F : Nat → Int} {K : Value → Prop} : px_gf (some (r3 F)) 3 0 K = K (.int (zI (F 0))) := rfl
theorem rpf_3_0 {F : Nat → Int} {x : Int} {K : pm_E → Prop} : px_pf (some (r3 F)) ps_okI 3 0 (.int (zI x)) K = K (r3 (upz F 0 x)) := rfl
theorem rgf_3_1 {F : Nat → Int} {K : Value → Prop} : px_gf (some (r3 F)) 3 1 K = K (rz (F 1)) := rfl
theorem rpf_3_1 {F : Nat → Int} {a : Nat} {K : pm_E → Prop} : px_pf (some (r3 F)) ps_okR 3 1 (.ref a) K = K (r3 (upz F 1 a)) := by
  have e : r3 (upz F 1 a) = .inr (3, [.int (zI (F 0)), .ref a, rz (F 2)]) := by
    rw [← rz_nat (a := a)]
    rfl
  exact (show px_pf (some (r3 F)) ps_okR 3 1 (.ref a) K = K (.inr (3, [.int (zI (F 0)), .ref a, rz (F 2)])) from rfl).trans (congrArg K e.symm)
theorem rgf_3_2 {F : Nat → Int} {K : Value → Prop} : px_gf (some (r3 F)) 3 2 K = K (rz (F 2)) := rfl
theorem rpf_3_2 {F : Nat → Int} {a : Nat} {K : pm_E → Prop} : px_pf (some (r3 F)) ps_okR 3 2 (.ref a) K = K (r3 (upz F 2 a)) := by
  have e : r3 (upz F 2 a) = .inr (3, [.int (zI (F 0)), rz (F 1), .ref a]) := by
    rw [← rz_nat (a := a)]
    rfl
  exact (show px_pf (some (r3 F)) ps_okR 3 2 (.ref a) K = K (.inr (3, [.int (zI (F 0)), rz (F 1), .ref a])) from rfl).trans (congrArg K e.symm)
theorem zf_3 {T : Nat → Nat × Nat} {S : Nat → Nat → Int} {c : pm_M × pm_C} {q n : Nat} (h : T q = (43, n)) (h1 : S q 1 = ((q + 1 : Nat) : Int)) (h2 : S q 2 = ((q + 2 : Nat) : Int)) : zh T S c = zh (upC T q (4, 0)) S c := by
  unfold zh
  congr 1
  funext b
  by_cases hb : b = q
  · subst hb
    rw [upC_eq, h]
    change some (r3 (S b)) = some (o3 b (S b))
    unfold r3 o3
    simp only [rz_nat, h1, h2]
  · rw [upC_ne hb]
/-- a new object of class 4 -/
def df4 : Nat → Int := fun k => if k = 7 ∨ k = 8 ∨ k = 9 ∨ k = 10 ∨ k = 11 ∨ k = 12 ∨ k = 13 then -1 else 0
theorem zn_44 {T : Nat → Nat × Nat} {S : Nat → Nat → Int} {c : pm_M × pm_C} {m : Nat} : pm_new (zh T S c) (.inr (4, [.int 0, .int 0, .int 0, .int 0, .int 0, .int 0, .int 0, .null, .null, .null, .null, .null, .null, .null])) m = zh (upC T c.1.2.1 (44, 0)) (upS S c.1.2.1 df4) (nc c m) := zn_at rfl
theorem zc_44 {n q : Nat} {F : Nat → Int} : zc (44, n) q F = some (r4 F) := rfl
theorem zo_44 {T : Nat → Nat × Nat} {S : Nat → Nat → Int} {c : pm_M × pm_C} {a n : Nat} (h : T a = (44, n)) : (zh T S c).1 a = some (r4 (S a)) := by rw [zh_1, h]; rfl
theorem zp_44 {T : Nat → Nat × Nat} {S : Nat → Nat → Int} {c : pm_M × pm_C} {a : Nat} {F : Nat → Int} (h : T a = (44, 0)) : pm_put (zh T S c) a (r4 F) = zh T (upS S a F) c := zp_at (by rw [h]; rfl)
theorem rgf_4_0 {F : Nat → Int} {K : Value → Prop} : px_gf (some (r4 F)) 4 0 K = K (.int (zI (F 0))) := rfl
theorem rpf_4_0 {F : Nat → Int} {x : Int} {K : pm_E → Prop} : px_pf (some (r4 F)) ps_okI 4 0 (.int (zI x)) K = K (r4 (upz F 0 x)) := rfl
theorem rgf_4_1 {F : Nat → Int} {K : Value → Prop} : px_gf (some (r4 F)) 4 1 K = K (.int (zI (F 1))) := rfl
theorem rpf_4_1 {F : Nat → Int} {x : Int} {K : pm_E → Prop} : px_pf (some (r4 F)) ps_okI 4 1 (.int (zI x)) K = K (r4 (upz F 1 x)) := rfl
theorem rgf_4_2 {F : Nat → Int} {K : Value → Prop} : px_gf (some (r4 F)) 4 2 K = K (.int (zI (F 2))) := rfl
theorem rpf_4_2 {F : Nat → Int} {x : Int} {K : pm_E → Prop} : px_pf (some (r4 F)) ps_okI 4 2 (.int (zI x)) K = K (r4 (upz F 2 x)) := rfl
theorem rgf_4_3 {F : Nat → Int} {K : Value → Prop} : px_gf (some (r4 F)) 4 3 K = K (.int (zI (F 3))) := rfl
theorem rpf_4_3 {F : Nat → Int} {x : Int} {K : pm_E → Prop} : px_pf (some (r4 F)) ps_okI 4 3 (.int (zI x)) K = K (r4 (upz F 3 x)) := rfl
theorem rgf_4_4 {F : Nat → Int} {K : Value → Prop} : px_gf (some (r4 F)) 4 4 K = K (.int (zI (F 4))) := rfl
theorem rpf_4_4 {F : Nat → Int} {x : Int} {K : pm_E → Prop} : px_pf (some (r4 F)) ps_okI 4 4 (.int (zI x)) K = K (r4 (upz F 4 x)) := rfl
theorem rgf_4_5 {F : Nat → Int} {K : Value → Prop} : px_gf (some (r4 F)) 4 5 K = K (.int (zI (F 5))) := rfl
theorem rpf_4_5 {F : Nat → Int} {x : Int} {K : pm_E → Prop} : px_pf (some (r4 F)) ps_okI 4 5 (.int (zI x)) K = K (r4 (upz F 5 x)) := rfl
theorem rgf_4_6 {F : Nat → Int} {K : Value → Prop} : px_gf (some (r4 F)) 4 6 K = K (.int (zI (F 6))) := rfl
theorem rpf_4_6 {F : Nat → Int} {x : Int} {K : pm_E → Prop} : px_pf (some (r4 F)) ps_okI 4 6 (.int (zI x)) K = K (r4 (upz F 6 x)) := rfl
theorem rgf_4_7 {F : Nat → Int} {K : Value → Prop} : px_gf (some (r4 F)) 4 7 K = K (rz (F 7)) := rfl
theorem rpf_4_7 {F : Nat → Int} {a : Nat} {K : pm_E → Prop} : px_pf (some (r4 F)) ps_okR 4 7 (.ref a) K = K (r4 (upz F 7 a)) := by
  have e : r4 (upz F 7 a) = .inr (4, [.int (zI (F 0)), .int (zI (F 1)), .int (zI (F 2)), .int (zI (F 3)), .int (zI (F 4)), .int (zI (F 5)), .int (zI (F 6)), .ref a, rz (F 8), rz (F 9), rz (F 10), rz (F 11), rz (F 12), rz (F 13)]) := by
    rw [← rz_nat (a := a)]
    rfl
  exact (show px_pf (some (r4 F)) ps_okR 4 7 (.ref a) K = K (.inr (4, [.int (zI (F 0)), .int (zI (F 1)), .int (zI (F 2)), .int (zI (F 3)), .int (zI (F 4)), .int (zI (F 5)), .int (zI (F 6)), .ref a, rz (F 8), rz (F 9), rz (F 10), rz (F 11), rz (F 12), rz (F 13)])) from rfl).trans (congrArg K e.symm)
theorem rgf_4_8 {F : Nat → Int} {K : Value → Prop} : px_gf (some (r4 F)) 4 8 K = K (rz (F 8)) := rfl
theorem rpf_4_8 {F : Nat → Int} {a : Nat} {K : pm_E → Prop} : px_pf (some (r4 F)) ps_okR 4 8 (.ref a) K = K (r4 (upz F 8 a)) := by
  have e : r4 (upz F 8 a) = .inr (4, [.int (zI (F 0)), .int (zI (F 1)), .int (zI (F 2)), .int (zI (F 3)), .int (zI (F 4)), .int (zI (F 5)), .int (zI (F 6)), rz (F 7), .ref a, rz (F 9), rz (F 10), rz (F 11), rz (F 12), rz (F 13)]) := by
    rw [← rz_nat (a := a)]
    rfl
  exact (show px_pf (some (r4 F)) ps_okR 4 8 (.ref a) K = K (.inr (4, [.int (zI (F 0)), .int (zI (F 1)), .int (zI (F 2)), .int (zI (F 3)), .int (zI (F 4)), .int (zI (F 5)), .int (zI (F 6)), rz (F 7), .ref a, rz (F 9), rz (F 10), rz (F 11), rz (F 12), rz (F 13)])) from rfl).trans (congrArg K e.symm)
theorem rgf_4_9 {F : Nat → Int} {K : Value → Prop} : px_gf (some (r4 F)) 4 9 K = K (rz (F 9)) := rfl
theorem rpf_4_9 {F : Nat → Int} {a : Nat} {K : pm_E → Prop} : px_pf (some (r4 F)) ps_okR 4 9 (.ref a) K = K (r4 (upz F 9 a)) := by
  have e : r4 (upz F 9 a) = .inr (4, [.int (zI (F 0)), .int (zI (F 1)), .int (zI (F 2)), .int (zI (F 3)), .int (zI (F 4)), .int (zI (F 5)), .int (zI (F 6)), rz (F 7), rz (F 8), .ref a, rz (F 10), rz (F 11), rz (F 12), rz (F 13)]) := by
    rw [← rz_nat (a := a)]
    rfl
  exact (show px_pf (some (r4 F)) ps_okR 4 9 (.ref a) K = K (.inr (4, [.int (zI (F 0)), .int (zI (F 1)), .int (zI (F 2)), .int (zI (F 3)), .int (zI (F 4)), .int (zI (F 5)), .int (zI (F 6)), rz (F 7), rz (F 8), .ref a, rz (F 10), rz (F 11), rz (F 12), rz (F 13)])) from rfl).trans (congrArg K e.symm)
theorem rgf_4_10 {F : Nat → Int} {K : Value → Prop} : px_gf (some (r4 F)) 4 10 K = K (rz (F 10)) := rfl
theorem rpf_4_10 {F : Nat → Int} {a : Nat} {K : pm_E → Prop} : px_pf (some (r4 F)) ps_okR 4 10 (.ref a) K = K (r4 (upz F 10 a)) := by
  have e : r4 (upz F 10 a) = .inr (4, [.int (zI (F 0)), .int (zI (F 1)), .int (zI (F 2)), .int (zI (F 3)), .int (zI (F 4)), .int (zI (F 5)), .int (zI (F 6)), rz (F 7), rz (F 8), rz (F 9), .ref a, rz (F 11), rz (F 12), rz (F 13)]) := by
    rw [← rz_nat (a := a)]
    rfl
  exact (show px_pf (some (r4 F)) ps_okR 4 10 (.ref a) K = K (.inr (4, [.int (zI (F 0)), .int (zI (F 1)), .int (zI (F 2)), .int (zI (F 3)), .int (zI (F 4)), .int (zI (F 5)), .int (zI (F 6)), rz (F 7), rz (F 8), rz (F 9), .ref a, rz (F 11), rz (F 12), rz (F 13)])) from rfl).trans (congrArg K e.symm)
theorem rgf_4_11 {F : Nat → Int} {K : Value → Prop} : px_gf (some (r4 F)) 4 11 K = K (rz (F 11)) := rfl
theorem rpf_4_11 {F : Nat → Int} {a : Nat} {K : pm_E → Prop} : px_pf (some (r4 F)) ps_okR 4 11 (.ref a) K = K (r4 (upz F 11 a)) := by
  have e : r4 (upz F 11 a) = .inr (4, [.int (zI (F 0)), .int (zI (F 1)), .int (zI (F 2)), .int (zI (F 3)), .int (zI (F 4)), .int (zI (F 5)), .int (zI (F 6)), rz (F 7), rz (F 8), rz (F 9), rz (F 10), .ref a, rz (F 12), rz (F 13)]) := by
    rw [← rz_nat (a := a)]
    rfl
  exact (show px_pf (some (r4 F)) ps_okR 4 11 (.ref a) K = K (.inr (4, [.int (zI (F 0)), .int (zI (F 1)), .int (zI (F 2)), .int (zI (F 3)), .int (zI (F 4)), .int (zI (F 5)), .int (zI (F 6)), rz (F 7), rz (F 8), rz (F 9), rz (F 10), .ref a, rz (F 12), rz (F 13)])) from rfl).trans (congrArg K e.symm)
theorem rgf_4_12 {F : Nat → Int} {K : Value → Prop} : px_gf (some (r4 F)) 4 12 K = K (rz (F 12)) := rfl
theorem rpf_4_12 {F : Nat → Int} {a : Nat} {K : pm_E → Prop} : px_pf (some (r4 F)) ps_okR 4 12 (.ref a) K = K (r4 (upz F 12 a)) := by
  have e : r4 (upz F 12 a) = .inr (4, [.int (zI (F 0)), .int (zI (F 1)), .int (zI (F 2)), .int (zI (F 3)), .int (zI (F 4)), .int (zI (F 5)), .int (zI (F 6)), rz (F 7), rz (F 8), rz (F 9), rz (F 10), rz (F 11), .ref a, rz (F 13)]) := by
    rw [← rz_nat (a := a)]
    rfl
  exact (show px_pf (some (r4 F)) ps_okR 4 12 (.ref a) K = K (.inr (4, [.int (zI (F 0)), .int (zI (F 1)), .int (zI (F 2)), .int (zI (F 3)), .int (zI (F 4)), .int (zI (F 5)), .int (zI (F 6)), rz (F 7), rz (F 8), rz (F 9), rz (F 10), rz (F 11), .ref a, rz (F 13)])) from rfl).trans (congrArg K e.symm)
theorem rgf_4_13 {F : Nat → Int} {K : Value → Prop} : px_gf (some (r4 F)) 4 13 K = K (rz (F 13)) := rfl
theorem rpf_4_13 {F : Nat → Int} {a : Nat} {K : pm_E → Prop} : px_pf (some (r4 F)) ps_okR 4 13 (.ref a) K = K (r4 (upz F 13 a)) := by
  have e : r4 (upz F 13 a) = .inr (4, [.int (zI (F 0)), .int (zI (F 1)), .int (zI (F 2)), .int (zI (F 3)), .int (zI (F 4)), .int (zI (F 5)), .int (zI (F 6)), rz (F 7), rz (F 8), rz (F 9), rz (F 10), rz (F 11), rz (F 12), .ref a]) := by
    rw [← rz_nat (a := a)]
    rfl
  exact (show px_pf (some (r4 F)) ps_okR 4 13 (.ref a) K = K (.inr (4, [.int (zI (F 0)), .int (zI (F 1)), .int (zI (F 2)), .int (zI (F 3)), .int (zI (F 4)), .int (zI (F 5)), .int (zI (F 6)), rz (F 7), rz (F 8), rz (F 9), rz (F 10), rz (F 11), rz (F 12), .ref a])) from rfl).trans (congrArg K e.symm)
theorem zf_4 {T : Nat → Nat × Nat} {S : Nat → Nat → Int} {c : pm_M × pm_C} {q n : Nat} (h : T q = (44, n)) (h7 : S q 7 = ((q + 1 : Nat) : Int)) (h8 : S q 8 = ((q + 2 : Nat) : Int)) (h9 : S q 9 = ((q + 3 : Nat) : Int)) (h10 : S q 10 = ((q + 4 : Nat) : Int)) (h11 : S q 11 = ((q + 5 : Nat) : Int)) (h12 : S q 12 = ((q + 6 : Nat) : Int)) (h13 : S q 13 = ((q + 7 : Nat) : Int)) : zh T S c = zh (upC T q (5, 0)) S c := by
  unfold zh
  congr 1
  funext b
  by_cases hb : b = q
  · subst hb
    rw [upC_eq, h]
    change some (r4 (S b)) = some (o4 b (S b))
    unfold r4 o4
    simp only [rz_nat, h7, h8, h9, h10, h11, h12, h13]
  · rw [upC_ne hb]
/-- a new object of class 5 -/
def df5 : Nat → Int := fun k => if k = 3 ∨ k = 4 then -1 else 0
theorem zn_45 {T : Nat → Nat × Nat} {S : Nat → Nat → Int} {c : pm_M × pm_C} {m : Nat} : pm_new (zh T S c) (.inr (5, [.int 0, .int 0, .int 0, .null, .null])) m = zh (upC T c.1.2.1 (45, 0)) (upS S c.1.2.1 df5) (nc c m) := zn_at rfl
theorem zc_45 {n q : Nat} {F : Nat → Int} : zc (45, n) q F = some (r5 F) := rfl
theorem zo_45 {T : Nat → Nat × Nat} {S : Nat → Nat → Int} {c : pm_M × pm_C} {a n : Nat} (h : T a = (45, n)) : (zh T S c).1 a = some (r5 (S a)) := by rw [zh_1, h]; rfl
theorem zp_45 {T : Nat → Nat × Nat} {S : Nat → Nat → Int} {c : pm_M × pm_C} {a : Nat} {F : Nat → Int} (h : T a = (45, 0)) : pm_put (zh T S c) a (r5 F) = zh T (upS S a F) c := zp_at (by rw [h]; rfl)
theorem rgf_5_0 {F : Nat → Int} {K : Value → Prop} : px_gf (some (r5 F)) 5 0 K = K (.int (zI (F 0))) := rfl
theorem rpf_5_0 {F : Nat → Int} {K : pm_E → Prop} : px_pf (some (r5 F)) ps_okZ 5 0 (.int (zI 0)) K = K (r5 (upz F 0 0)) := rfl
theorem rgf_5_1 {F : Nat → Int} {K : Value → Prop} : px_gf (some (r5 F)) 5 1 K = K (.int (zI (F 1))) := rfl
theorem rpf_5_1 {F : Nat → Int} {K : pm_E → Prop} : px_pf (some (r5 F)) ps_okZ 5 1 (.int (zI 0)) K = K (r5 (upz F 1 0)) := rfl
theorem rgf_5_2 {F : Nat → Int} {K : Value → Prop} : px_gf (some (r5 F)) 5 2 K = K (.int (zI (F 2))) := rfl
theorem rpf_5_2 {F : Nat → Int} {K : pm_E → Prop} : px_pf (some (r5 F)) ps_okZ 5 2 (.int (zI 0)) K = K (r5 (upz F 2 0)) := rfl
theorem rgf_5_3 {F : Nat → Int} {K : Value → Prop} : px_gf (some (r5 F)) 5 3 K = K (rz (F 3)) := rfl
theorem rpf_5_3 {F : Nat → Int} {a : Nat} {K : pm_E → Prop} : px_pf (some (r5 F)) ps_okR 5 3 (.ref a) K = K (r5 (upz F 3 a)) := by
  have e : r5 (upz F 3 a) = .inr (5, [.int (zI (F 0)), .int (zI (F 1)), .int (zI (F 2)), .ref a, rz (F 4)]) := by
    rw [← rz_nat (a := a)]
    rfl
  exact (show px_pf (some (r5 F)) ps_okR 5 3 (.ref a) K = K (.inr (5, [.int (zI (F 0)), .int (zI (F 1)), .int (zI (F 2)), .ref a, rz (F 4)])) from rfl).trans (congrArg K e.symm)
theorem rgf_5_4 {F : Nat → Int} {K : Value → Prop} : px_gf (some (r5 F)) 5 4 K = K (rz (F 4)) := rfl
theorem rpf_5_4 {F : Nat → Int} {a : Nat} {K : pm_E → Prop} : px_pf (some (r5 F)) ps_okR 5 4 (.ref a) K = K (r5 (upz F 4 a)) := by
  have e : r5 (upz F 4 a) = .inr (5, [.int (zI (F 0)), .int (zI (F 1)), .int (zI (F 2)), rz (F 3), .ref a]) := by
    rw [← rz_nat (a := a)]
    rfl
  exact (show px_pf (some (r5 F)) ps_okR 5 4 (.ref a) K = K (.inr (5, [.int (zI (F 0)), .int (zI (F 1)), .int (zI (F 2)), rz (F 3), .ref a])) from rfl).trans (congrArg K e.symm)
theorem zf_5 {T : Nat → Nat × Nat} {S : Nat → Nat → Int} {c : pm_M × pm_C} {q n : Nat} (h : T q = (45, n)) (h3 : S q 3 = ((q + 1 : Nat) : Int)) (h4 : S q 4 = ((q + 2 : Nat) : Int)) : zh T S c = zh (upC T q (6, 0)) S c := by
  unfold zh
  congr 1
  funext b
  by_cases hb : b = q
  · subst hb
    rw [upC_eq, h]
    change some (r5 (S b)) = some (o5 b (S b))
    unfold r5 o5
    simp only [rz_nat, h3, h4]
  · rw [upC_ne hb]
/-- a new object of class 6 -/
def df6 : Nat → Int := fun k => if k = 4 ∨ k = 7 ∨ k = 8 ∨ k = 9 ∨ k = 10 ∨ k = 11 ∨ k = 12 ∨ k = 13 then -1 else 0
theorem zn_46 {T : Nat → Nat × Nat} {S : Nat → Nat → Int} {c : pm_M × pm_C} {m : Nat} : pm_new (zh T S c) (.inr (6, [.int 0, .int 0, .int 0, .int 0, .null, .int 0, .int 0, .null, .null, .null, .null, .null, .null, .null, .int 0, .int 0, .int 0])) m = zh (upC T c.1.2.1 (46, 0)) (upS S c.1.2.1 df6) (nc c m) := zn_at rfl
theorem zc_46 {n q : Nat} {F : Nat → Int} : zc (46, n) q F = some (r6 F) := rfl
theorem zo_46 {T : Nat → Nat × Nat} {S : Nat → Nat → Int} {c : pm_M × pm_C} {a n : Nat} (h : T a = (46, n)) : (zh T S c).1 a = some (r6 (S a)) := by rw [zh_1, h]; rfl
theorem zp_46 {T : Nat → Nat × Nat} {S : Nat → Nat → Int} {c : pm_M × pm_C} {a : Nat} {F : Nat → Int} (h : T a = (46, 0)) : pm_put (zh T S c) a (r6 F) = zh T (upS S a F) c := zp_at (by rw [h]; rfl)
theorem rgf_6_0 {F : Nat → Int} {K : Value → Prop} : px_gf (some (r6 F)) 6 0 K = K (.int (zI (F 0))) := rfl
theorem rpf_6_0 {F : Nat → Int} {x : Int} {K : pm_E → Prop} : px_pf (some (r6 F)) ps_okI 6 0 (.int (zI x)) K = K (r6 (upz F 0 x)) := rfl
theorem rgf_6_1 {F : Nat → Int} {K : Value → Prop} : px_gf (some (r6 F)) 6 1 K = K (.int (zI (F 1))) := rfl
theorem rpf_6_1 {F : Nat → Int} {x : Int} {K : pm_E → Prop} : px_pf (some (r6 F)) ps_okI 6 1 (.int (zI x)) K = K (r6 (upz F 1 x)) := rfl
theorem rgf_6_2 {F : Nat → Int} {K : Value → Prop} : px_gf (some (r6 F)) 6 2 K = K (.int (zI (F 2))) := rfl
theorem rpf_6_2 {F : Nat → Int} {x : Int} {K : pm_E → Prop} : px_pf (some (r6 F)) ps_okI 6 2 (.int (zI x)) K = K (r6 (upz F 2 x)) := rfl
theorem rgf_6_3 {F : Nat → Int} {K : Value → Prop} : px_gf (some (r6 F)) 6 3 K = K (.int (zI (F 3))) := rfl
theorem rpf_6_3 {F : Nat → Int} {x : Int} {K : pm_E → Prop} : px_pf (some (r6 F)) ps_okI 6 3 (.int (zI x)) K = K (r6 (upz F 3 x)) := rfl
theorem rgf_6_4 {F : Nat → Int} {K : Value → Prop} : px_gf (some (r6 F)) 6 4 K = K (rz (F 4)) := rfl
theorem rpf_6_4 {F : Nat → Int} {a : Nat} {K : pm_E → Prop} : px_pf (some (r6 F)) ps_okR 6 4 (.ref a) K = K (r6 (upz F 4 a)) := by
  have e : r6 (upz F 4 a) = .inr (6, [.int (zI (F 0)), .int (zI (F 1)), .int (zI (F 2)), .int (zI (F 3)), .ref a, .int (zI (F 5)), .int (zI (F 6)), rz (F 7), rz (F 8), rz (F 9), rz (F 10), rz (F 11), rz (F 12), rz (F 13), .int (zI (F 14)), .int (zI (F 15)), .int (zI (F 16))]) := by
    rw [← rz_nat (a := a)]
    rfl
  exact (show px_pf (some (r6 F)) ps_okR 6 4 (.ref a) K = K (.inr (6, [.int (zI (F 0)), .int (zI (F 1)), .int (zI (F 2)), .int (zI (F 3)), .ref a, .int (zI (F 5)), .int (zI (F 6)), rz (F 7), rz (F 8), rz (F 9), rz (F 10), rz (F 11), rz (F 12), rz (F 13), .int (zI (F 14)), .int (zI (F 15)), .int (zI (F 16))])) from rfl).trans (congrArg K e.symm)
theorem rgf_6_5 {F : Nat → Int} {K : Value → Prop} : px_gf (some (r6 F)) 6 5 K = K (.int (zI (F 5))) := rfl
theorem rpf_6_5 {F : Nat → Int} {x : Int} {K : pm_E → Prop} : px_pf (some (r6 F)) ps_okI 6 5 (.int (zI x)) K = K (r6 (upz F 5 x)) := rfl
theorem rgf_6_6 {F : Nat → Int} {K : Value → Prop} : px_gf (some (r6 F)) 6 6 K = K (.int (zI (F 6))) := rfl
theorem rpf_6_6 {F : Nat → Int} {x : Int} {K : pm_E → Prop} : px_pf (some (r6 F)) ps_okI 6 6 (.int (zI x)) K = K (r6 (upz F 6 x)) := rfl
theorem rgf_6_7 {F : Nat → Int} {K : Value → Prop} : px_gf (some (r6 F)) 6 7 K = K (rz (F 7)) := rfl
theorem rpf_6_7 {F : Nat → Int} {a : Nat} {K : pm_E → Prop} : px_pf (some (r6 F)) ps_okR 6 7 (.ref a) K = K (r6 (upz F 7 a)) := by
  have e : r6 (upz F 7 a) = .inr (6, [.int (zI (F 0)), .int (zI (F 1)), .int (zI (F 2)), .int (zI (F 3)), rz (F 4), .int (zI (F 5)), .int (zI (F 6)), .ref a, rz (F 8), rz (F 9), rz (F 10), rz (F 11), rz (F 12), rz (F 13), .int (zI (F 14)), .int (zI (F 15)), .int (zI (F 16))]) := by
    rw [← rz_nat (a := a)]
    rfl
  exact (show px_pf (some (r6 F)) ps_okR 6 7 (.ref a) K = K (.inr (6, [.int (zI (F 0)), .int (zI (F 1)), .int (zI (F 2)), .int (zI (F 3)), rz (F 4), .int (zI (F 5)), .int (zI (F 6)), .ref a, rz (F 8), rz (F 9), rz (F 10), rz (F 11), rz (F 12), rz (F 13), .int (zI (F 14)), .int (zI (F 15)), .int (zI (F 16))])) from rfl).trans (congrArg K e.symm)
theorem rgf_6_8 {F : Nat → Int} {K : Value → Prop} : px_gf (some (r6 F)) 6 8 K = K (rz (F 8)) := rfl
theorem rpf_6_8 {F : Nat → Int} {a : Nat} {K : pm_E → Prop} : px_pf (some (r6 F)) ps_okR 6 8 (.ref a) K = K (r6 (upz F 8 a)) := by
  have e : r6 (upz F 8 a) = .inr (6, [.int (zI (F 0)), .int (zI (F 1)), .int (zI (F 2)), .int (zI (F 3)), rz (F 4), .int (zI (F 5)), .int (zI (F 6)), rz (F 7), .ref a, rz (F 9), rz (F 10), rz (F 11), rz (F 12), rz (F 13), .int (zI (F 14)), .int (zI (F 15)), .int (zI (F 16))]) := by
    rw [← rz_nat (a := a)]
    rfl
  exact (show px_pf (some (r6 F)) ps_okR 6 8 (.ref a) K = K (.inr (6, [.int (zI (F 0)), .int (zI (F 1)), .int (zI (F 2)), .int (zI (F 3)), rz (F 4), .int (zI (F 5)), .int (zI (F 6)), rz (F 7), .ref a, rz (F 9), rz (F 10), rz (F 11), rz (F 12), rz (F 13), .int (zI (F 14)), .int (zI (F 15)), .int (zI (F 16))])) from rfl).trans (congrArg K e.symm)
theorem rgf_6_9 {F : Nat → Int} {K : Value → Prop} : px_gf (some (r6 F)) 6 9 K = K (rz (F 9)) := rfl
theorem rpf_6_9 {F : Nat → Int} {a : Nat} {K : pm_E → Prop} : px_pf (some (r6 F)) ps_okR 6 9 (.ref a) K = K (r6 (upz F 9 a)) := by
  have e : r6 (upz F 9 a) = .inr (6, [.int (zI (F 0)), .int (zI (F 1)), .int (zI (F 2)), .int (zI (F 3)), rz (F 4), .int (zI (F 5)), .int (zI (F 6)), rz (F 7), rz (F 8), .ref a, rz (F 10), rz (F 11), rz (F 12), rz (F 13), .int (zI (F 14)), .int (zI (F 15)), .int (zI (F 16))]) := by
    rw [← rz_nat (a := a)]
    rfl
  exact (show px_pf (some (r6 F)) ps_okR 6 9 (.ref a) K = K (.inr (6, [.int (zI (F 0)), .int (zI (F 1)), .int (zI (F 2)), .int (zI (F 3)), rz (F 4), .int (zI (F 5)), .int (zI (F 6)), rz (F 7), rz (F 8), .ref a, rz (F 10), rz (F 11), rz (F 12), rz (F 13), .int (zI (F 14)), .int (zI (F 15)), .int (zI (F 16))])) from rfl).trans (congrArg K e.symm)
theorem rgf_6_10 {F : Nat → Int} {K : Value → Prop} : px_gf (some (r6 F)) 6 10 K = K (rz (F 10)) := rfl
theorem rpf_6_10 {F : Nat → Int} {a : Nat} {K : pm_E → Prop} : px_pf (some (r6 F)) ps_okR 6 10 (.ref a) K = K (r6 (upz F 10 a)) := by
  have e : r6 (upz F 10 a) = .inr (6, [.int (zI (F 0)), .int (zI (F 1)), .int (zI (F 2)), .int (zI (F 3)), rz (F 4), .int (zI (F 5)), .int (zI (F 6)), rz (F 7), rz (F 8), rz (F 9), .ref a, rz (F 11), rz (F 12), rz (F 13), .int (zI (F 14)), .int (zI (F 15)), .int (zI (F 16))]) := by
    rw [← rz_nat (a := a)]
    rfl
  exact (show px_pf (some (r6 F)) ps_okR 6 10 (.ref a) K = K (.inr (6, [.int (zI (F 0)), .int (zI (F 1)), .int (zI (F 2)), .int (zI (F 3)), rz (F 4), .int (zI (F 5)), .int (zI (F 6)), rz (F 7), rz (F 8), rz (F 9), .ref a, rz (F 11), rz (F 12), rz (F 13), .int (zI (F 14)), .int (zI (F 15)), .int (zI (F 16))])) from rfl).trans (congrArg K e.symm)
theorem rgf_6_11 {F : Nat → Int} {K : Value → Prop} : px_gf (some (r6 F)) 6 11 K = K (rz (F 11)) := rfl
theorem rpf_6_11 {F : Nat → Int} {a : Nat} {K : pm_E → Prop} : px_pf (some (r6 F)) ps_okR 6 11 (.ref a) K = K (r6 (upz F 11 a)) := by
  have e : r6 (upz F 11 a) = .inr (6, [.int (zI (F 0)), .int (zI (F 1)), .int (zI (F 2)), .int (zI (F 3)), rz (F 4), .int (zI (F 5)), .int (zI (F 6)), rz (F 7), rz (F 8), rz (F 9), rz (F 10), .ref a, rz (F 12), rz (F 13), .int (zI (F 14)), .int (zI (F 15)), .int (zI (F 16))]) := by
    rw [← rz_nat (a := a)]
    rfl
  exact (show px_pf (some (r6 F)) ps_okR 6 11 (.ref a) K = K (.inr (6, [.int (zI (F 0)), .int (zI (F 1)), .int (zI (F 2)), .int (zI (F 3)), rz (F 4), .int (zI (F 5)), .int (zI (F 6)), rz (F 7), rz (F 8), rz (F 9), rz (F 10), .ref a, rz (F 12), rz (F 13), .int (zI (F 14)), .int (zI (F 15)), .int (zI (F 16))])) from rfl).trans (congrArg K e.symm)
theorem rgf_6_12 {F : Nat → Int} {K : Value → Prop} : px_gf (some (r6 F)) 6 12 K = K (rz (F 12)) := rfl
theorem rpf_6_12 {F : Nat → Int} {a : Nat} {K : pm_E → Prop} : px_pf (some (r6 F)) ps_okR 6 12 (.ref a) K = K (r6 (upz F 12 a)) := by
  have e : r6 (upz F 12 a) = .inr (6, [.int (zI (F 0)), .int (zI (F 1)), .int (zI (F 2)), .int (zI (F 3)), rz (F 4), .int (zI (F 5)), .int (zI (F 6)), rz (F 7), rz (F 8), rz (F 9), rz (F 10), rz (F 11), .ref a, rz (F 13), .int (zI (F 14)), .int (zI (F 15)), .int (zI (F 16))]) := by
    rw [← rz_nat (a := a)]
    rfl
  exact (show px_pf (some (r6 F)) ps_okR 6 12 (.ref a) K = K (.inr (6, [.int (zI (F 0)), .int (zI (F 1)), .int (zI (F 2)), .int (zI (F 3)), rz (F 4), .int (zI (F 5)), .int (zI (F 6)), rz (F 7), rz (F 8), rz (F 9), rz (F 10), rz (F 11), .ref a, rz (F 13), .int (zI (F 14)), .int (zI (F 15)), .int (zI (F 16))])) from rfl).trans (congrArg K e.symm)
theorem rgf_6_13 {F : Nat → Int} {K : Value → Prop} : px_gf (some (r6 F)) 6 13 K = K (rz (F 13)) := rfl
theorem rpf_6_13 {F : Nat → Int} {a : Nat} {K : pm_E → Prop} : px_pf (some (r6 F)) ps_okR 6 13 (.ref a) K = K (r6 (upz F 13 a)) := by
  have e : r6 (upz F 13 a) = .inr (6, [.int (zI (F 0)), .int (zI (F 1)), .int (zI (F 2)), .int (zI (F 3)), rz (F 4), .int (zI (F 5)), .int (zI (F 6)), rz (F 7), rz (F 8), rz (F 9), rz (F 10), rz (F 11), rz (F 12), .ref a, .int (zI (F 14)), .int (zI (F 15)), .int (zI (F 16))]) := by
    rw [← rz_nat (a := a)]
    rfl
  exact (show px_pf (some (r6 F)) ps_okR 6 13 (.ref a) K = K (.inr (6, [.int (zI (F 0)), .int (zI (F 1)), .int (zI (F 2)), .int (zI (F 3)), rz (F 4), .int (zI (F 5)), .int (zI (F 6)), rz (F 7), rz (F 8), rz (F 9), rz (F 10), rz (F 11), rz (F 12), .ref a, .int (zI (F 14)), .int (zI (F 15)), .int (zI (F 16))])) from rfl).trans (congrArg K e.symm)
theorem rgf_6_14 {F : Nat → Int} {K : Value → Prop} : px_gf (some (r6 F)) 6 14 K = K (.int (zI (F 14))) := rfl
theorem rpf_6_14 {F : Nat → Int} {x : Int} {K : pm_E → Prop} : px_pf (some (r6 F)) ps_okI 6 14 (.int (zI x)) K = K (r6 (upz F 14 x)) := rfl
theorem rgf_6_15 {F : Nat → Int} {K : Value → Prop} : px_gf (some (r6 F)) 6 15 K = K (.int (zI (F 15))) := rfl
theorem rpf_6_15 {F : Nat → Int} {x : Int} {K : pm_E → Prop} : px_pf (some (r6 F)) ps_okI 6 15 (.int (zI x)) K = K (r6 (upz F 15 x)) := rfl
theorem rgf_6_16 {F : Nat → Int} {K : Value → Prop} : px_gf (some (r6 F)) 6 16 K = K (.int (zI (F 16))) := rfl
theorem rpf_6_16 {F : Nat → Int} {x : Int} {K : pm_E → Prop} : px_pf (some (r6 F)) ps_okI 6 16 (.int (zI x)) K = K (r6 (upz F 16 x)) := rfl
theorem zf_6 {T : Nat → Nat × Nat} {S : Nat → Nat → Int} {c : pm_M × pm_C} {q n : Nat} (h : T q = (46, n)) (h4 : S q 4 = ((q + 1 : Nat) : Int)) (h7 : S q 7 = ((q + 2 : Nat) : Int)) (h8 : S q 8 = ((q + 3 : Nat) : Int)) (h9 : S q 9 = ((q + 4 : Nat) : Int)) (h10 : S q 10 = ((q + 5 : Nat) : Int)) (h11 : S q 11 = ((q + 6 : Nat) : Int)) (h12 : 0 ≤ S q 12) (h13 : 0 ≤ S q 13) : zh T S c = zh (upC T q (7, 0)) S c := by
  unfold zh
  congr 1
  funext b
  by_cases hb : b = q
  · subst hb
    rw [upC_eq, h]
    change some (r6 (S b)) = some (o6 b (S b))
    unfold r6 o6
    simp only [rz_nat, h4, h7, h8, h9, h10, h11, rz_pos h12, rz_pos h13]
  · rw [upC_ne hb]
/-- a new object of class 7 -/
def df7 : Nat → Int := fun k => if k = 5 ∨ k = 6 ∨ k = 7 ∨ k = 8 ∨ k = 9 ∨ k = 10 ∨ k = 11 ∨ k = 12 then -1 else 0
theorem zn_47 {T : Nat → Nat × Nat} {S : Nat → Nat → Int} {c : pm_M × pm_C} {m : Nat} : pm_new (zh T S c) (.inr (7, [.int 0, .int 0, .int 0, .int 0, .int 0, .null, .null, .null, .null, .null, .null, .null, .null])) m = zh (upC T c.1.2.1 (47, 0)) (upS S c.1.2.1 df7) (nc c m) := zn_at rfl
theorem zc_47 {n q : Nat} {F : Nat → Int} : zc (47, n) q F = some (r7 F) := rfl
theorem zo_47 {T : Nat → Nat × Nat} {S : Nat → Nat → Int} {c : pm_M × pm_C} {a n : Nat} (h : T a = (47, n)) : (zh T S c).1 a = some (r7 (S a)) := by rw [zh_1, h]; rfl
theorem zp_47 {T : Nat → Nat × Nat} {S : Nat → Nat → Int} {c : pm_M × pm_C} {a : Nat} {F : Nat → Int} (h : T a = (47, 0)) : pm_put (zh T S c) a (r7 F) = zh T (upS S a F) c := zp_at (by rw [h]; rfl)
theorem rgf_7_0 {F : Nat → Int} {K : Value → Prop} : px_gf (some (r7 F)) 7 0 K = K (.int (zI (F 0))) := rfl
theorem rpf_7_0 {F : Nat → Int} {x : Int} {K : pm_E → Prop} : px_pf (some (r7 F)) ps_okI 7 0 (.int (zI x)) K = K (r7 (upz F 0 x)) := rfl
theorem rgf_7_1 {F : Nat → Int} {K : Value → Prop} : px_gf (some (r7 F)) 7 1 K = K (.int (zI (F 1))) := rfl
theorem rpf_7_1 {F : Nat → Int} {x : Int} {K : pm_E → Prop} : px_pf (some (r7 F)) ps_okI 7 1 (.int (zI x)) K = K (r7 (upz F 1 x)) := rfl
theorem rgf_7_2 {F : Nat → Int} {K : Value → Prop} : px_gf (some (r7 F)) 7 2 K = K (.int (zI (F 2))) := rfl
theorem rpf_7_2 {F : Nat → Int} {x : Int} {K : pm_E → Prop} : px_pf (some (r7 F)) ps_okI 7 2 (.int (zI x)) K = K (r7 (upz F 2 x)) := rfl
theorem rgf_7_3 {F : Nat → Int} {K : Value → Prop} : px_gf (some (r7 F)) 7 3 K = K (.int (zI (F 3))) := rfl
theorem rpf_7_3 {F : Nat → Int} {x : Int} {K : pm_E → Prop} : px_pf (some (r7 F)) ps_okI 7 3 (.int (zI x)) K = K (r7 (upz F 3 x)) := rfl
theorem rgf_7_4 {F : Nat → Int} {K : Value → Prop} : px_gf (some (r7 F)) 7 4 K = K (.int (zI (F 4))) := rfl
theorem rpf_7_4 {F : Nat → Int} {x : Int} {K : pm_E → Prop} : px_pf (some (r7 F)) ps_okI 7 4 (.int (zI x)) K = K (r7 (upz F 4 x)) := rfl
theorem rgf_7_5 {F : Nat → Int} {K : Value → Prop} : px_gf (some (r7 F)) 7 5 K = K (rz (F 5)) := rfl
theorem rpf_7_5 {F : Nat → Int} {a : Nat} {K : pm_E → Prop} : px_pf (some (r7 F)) ps_okR 7 5 (.ref a) K = K (r7 (upz F 5 a)) := by
  have e : r7 (upz F 5 a) = .inr (7, [.int (zI (F 0)), .int (zI (F 1)), .int (zI (F 2)), .int (zI (F 3)), .int (zI (F 4)), .ref a, rz (F 6), rz (F 7), rz (F 8), rz (F 9), rz (F 10), rz (F 11), rz (F 12)]) := by
    rw [← rz_nat (a := a)]
    rfl
  exact (show px_pf (some (r7 F)) ps_okR 7 5 (.ref a) K = K (.inr (7, [.int (zI (F 0)), .int (zI (F 1)), .int (zI (F 2)), .int (zI (F 3)), .int (zI (F 4)), .ref a, rz (F 6), rz (F 7), rz (F 8), rz (F 9), rz (F 10), rz (F 11), rz (F 12)])) from rfl).trans (congrArg K e.symm)
theorem rgf_7_6 {F : Nat → Int} {K : Value → Prop} : px_gf (some (r7 F)) 7 6 K = K (rz (F 6)) := rfl
theorem rpf_7_6 {F : Nat → Int} {a : Nat} {K : pm_E → Prop} : px_pf (some (r7 F)) ps_okR 7 6 (.ref a) K = K (r7 (upz F 6 a)) := by
  have e : r7 (upz F 6 a) = .inr (7, [.int (zI (F 0)), .int (zI (F 1)), .int (zI (F 2)), .int (zI (F 3)), .int (zI (F 4)), rz (F 5), .ref a, rz (F 7), rz (F 8), rz (F 9), rz (F 10), rz (F 11), rz (F 12)]) := by
    rw [← rz_nat (a := a)]
    rfl
  exact (show px_pf (some (r7 F)) ps_okR 7 6 (.ref a) K = K (.inr (7, [.int (zI (F 0)), .int (zI (F 1)), .int (zI (F 2)), .int (zI (F 3)), .int (zI (F 4)), rz (F 5), .ref a, rz (F 7), rz (F 8), rz (F 9), rz (F 10), rz (F 11), rz (F 12)])) from rfl).trans (congrArg K e.symm)
theorem rgf_7_7 {F : Nat → Int} {K : Value → Prop} : px_gf (some (r7 F)) 7 7 K = K (rz (F 7)) := rfl
theorem rpf_7_7 {F : Nat → Int} {a : Nat} {K : pm_E → Prop} : px_pf (some (r7 F)) ps_okR 7 7 (.ref a) K = K (r7 (upz F 7 a)) := by
  have e : r7 (upz F 7 a) = .inr (7, [.int (zI (F 0)), .int (zI (F 1)), .int (zI (F 2)), .int (zI (F 3)), .int (zI (F 4)), rz (F 5), rz (F 6), .ref a, rz (F 8), rz (F 9), rz (F 10), rz (F 11), rz (F 12)]) := by
    rw [← rz_nat (a := a)]
    rfl
  exact (show px_pf (some (r7 F)) ps_okR 7 7 (.ref a) K = K (.inr (7, [.int (zI (F 0)), .int (zI (F 1)), .int (zI (F 2)), .int (zI (F 3)), .int (zI (F 4)), rz (F 5), rz (F 6), .ref a, rz (F 8), rz (F 9), rz (F 10), rz (F 11), rz (F 12)])) from rfl).trans (congrArg K e.symm)
theorem rgf_7_8 {F : Nat → Int} {K : Value → Prop} : px_gf (some (r7 F)) 7 8 K = K (rz (F 8)) := rfl
theorem rpf_7_8 {F : Nat → Int} {a : Nat} {K : pm_E → Prop} : px_pf (some (r7 F)) ps_okR 7 8 (.ref a) K = K (r7 (upz F 8 a)) := by
  have e : r7 (upz F 8 a) = .inr (7, [.int (zI (F 0)), .int (zI (F 1)), .int (zI (F 2)), .int (zI (F 3)), .int (zI (F 4)), rz (F 5), rz (F 6), rz (F 7), .ref a, rz (F 9), rz (F 10), rz (F 11), rz (F 12)]) := by
    rw [← rz_nat (a := a)]
    rfl
  exact (show px_pf (some (r7 F)) ps_okR 7 8 (.ref a) K = K (.inr (7, [.int (zI (F 0)), .int (zI (F 1)), .int (zI (F 2)), .int (zI (F 3)), .int (zI (F 4)), rz (F 5), rz (F 6), rz (F 7), .ref a, rz (F 9), rz (F 10), rz (F 11), rz (F 12)])) from rfl).trans (congrArg K e.symm)
theorem rgf_7_9 {F : Nat → Int} {K : Value → Prop} : px_gf (some (r7 F)) 7 9 K = K (rz (F 9)) := rfl
theorem rpf_7_9 {F : Nat → Int} {a : Nat} {K : pm_E → Prop} : px_pf (some (r7 F)) ps_okR 7 9 (.ref a) K = K (r7 (upz F 9 a)) := by
  have e : r7 (upz F 9 a) = .inr (7, [.int (zI (F 0)), .int (zI (F 1)), .int (zI (F 2)), .int (zI (F 3)), .int (zI (F 4)), rz (F 5), rz (F 6), rz (F 7), rz (F 8), .ref a, rz (F 10), rz (F 11), rz (F 12)]) := by
    rw [← rz_nat (a := a)]
    rfl
  exact (show px_pf (some (r7 F)) ps_okR 7 9 (.ref a) K = K (.inr (7, [.int (zI (F 0)), .int (zI (F 1)), .int (zI (F 2)), .int (zI (F 3)), .int (zI (F 4)), rz (F 5), rz (F 6), rz (F 7), rz (F 8), .ref a, rz (F 10), rz (F 11), rz (F 12)])) from rfl).trans (congrArg K e.symm)
theorem rgf_7_10 {F : Nat → Int} {K : Value → Prop} : px_gf (some (r7 F)) 7 10 K = K (rz (F 10)) := rfl
theorem rpf_7_10 {F : Nat → Int} {a : Nat} {K : pm_E → Prop} : px_pf (some (r7 F)) ps_okR 7 10 (.ref a) K = K (r7 (upz F 10 a)) := by
  have e : r7 (upz F 10 a) = .inr (7, [.int (zI (F 0)), .int (zI (F 1)), .int (zI (F 2)), .int (zI (F 3)), .int (zI (F 4)), rz (F 5), rz (F 6), rz (F 7), rz (F 8), rz (F 9), .ref a, rz (F 11), rz (F 12)]) := by
    rw [← rz_nat (a := a)]
    rfl
  exact (show px_pf (some (r7 F)) ps_okR 7 10 (.ref a) K = K (.inr (7, [.int (zI (F 0)), .int (zI (F 1)), .int (zI (F 2)), .int (zI (F 3)), .int (zI (F 4)), rz (F 5), rz (F 6), rz (F 7), rz (F 8), rz (F 9), .ref a, rz (F 11), rz (F 12)])) from rfl).trans (congrArg K e.symm)
theorem rgf_7_11 {F : Nat → Int} {K : Value → Prop} : px_gf (some (r7 F)) 7 11 K = K (rz (F 11)) := rfl
theorem rpf_7_11 {F : Nat → Int} {a : Nat} {K : pm_E → Prop} : px_pf (some (r7 F)) ps_okR 7 11 (.ref a) K = K (r7 (upz F 11 a)) := by
  have e : r7 (upz F 11 a) = .inr (7, [.int (zI (F 0)), .int (zI (F 1)), .int (zI (F 2)), .int (zI (F 3)), .int (zI (F 4)), rz (F 5), rz (F 6), rz (F 7), rz (F 8), rz (F 9), rz (F 10), .ref a, rz (F 12)]) := by
    rw [← rz_nat (a := a)]
    rfl
  exact (show px_pf (some (r7 F)) ps_okR 7 11 (.ref a) K = K (.inr (7, [.int (zI (F 0)), .int (zI (F 1)), .int (zI (F 2)), .int (zI (F 3)), .int (zI (F 4)), rz (F 5), rz (F 6), rz (F 7), rz (F 8), rz (F 9), rz (F 10), .ref a, rz (F 12)])) from rfl).trans (congrArg K e.symm)
theorem rgf_7_12 {F : Nat → Int} {K : Value → Prop} : px_gf (some (r7 F)) 7 12 K = K (rz (F 12)) := rfl
theorem rpf_7_12 {F : Nat → Int} {a : Nat} {K : pm_E → Prop} : px_pf (some (r7 F)) ps_okR 7 12 (.ref a) K = K (r7 (upz F 12 a)) := by
  have e : r7 (upz F 12 a) = .inr (7, [.int (zI (F 0)), .int (zI (F 1)), .int (zI (F 2)), .int (zI (F 3)), .int (zI (F 4)), rz (F 5), rz (F 6), rz (F 7), rz (F 8), rz (F 9), rz (F 10), rz (F 11), .ref a]) := by
    rw [← rz_nat (a := a)]
    rfl
  exact (show px_pf (some (r7 F)) ps_okR 7 12 (.ref a) K = K (.inr (7, [.int (zI (F 0)), .int (zI (F 1)), .int (zI (F 2)), .int (zI (F 3)), .int (zI (F 4)), rz (F 5), rz (F 6), rz (F 7), rz (F 8), rz (F 9), rz (F 10), rz (F 11), .ref a])) from rfl).trans (congrArg K e.symm)
theorem zf_7 {T : Nat → Nat × Nat} {S : Nat → Nat → Int} {c : pm_M × pm_C} {q n : Nat} (h : T q = (47, n)) (h5 : S q 5 = ((q + 1 : Nat) : Int)) (h6 : S q 6 = ((q + 2 : Nat) : Int)) (h7 : S q 7 = ((q + 3 : Nat) : Int)) (h8 : S q 8 = ((q + 4 : Nat) : Int)) (h9 : S q 9 = ((q + 5 : Nat) : Int)) (h10 : S q 10 = ((q + 6 : Nat) : Int)) (h11 : S q 11 = ((q + 7 : Nat) : Int)) (h12 : S q 12 = ((q + 8 : Nat) : Int)) : zh T S c = zh (upC T q (8, 0)) S c := by
  unfold zh
  congr 1
  funext b
  by_cases hb : b = q
  · subst hb
    rw [upC_eq, h]
    change some (r7 (S b)) = some (o7 b (S b))
    unfold r7 o7
    simp only [rz_nat, h5, h6, h7, h8, h9, h10, h11, h12]
  · rw [upC_ne hb]
/-- a new object of class 8 -/
def df8 : Nat → Int := fun k => if k = 2 ∨ k = 3 ∨ k = 4 ∨ k = 5 ∨ k = 6 then -1 else 0
theorem zn_48 {T : Nat → Nat × Nat} {S : Nat → Nat → Int} {c : pm_M × pm_C} {m : Nat} : pm_new (zh T S c) (.inr (8, [.int 0, .int 0, .null, .null, .null, .null, .null])) m = zh (upC T c.1.2.1 (48, 0)) (upS S c.1.2.1 df8) (nc c m) := zn_at rfl
theorem zc_48 {n q : Nat} {F : Nat → Int} : zc (48, n) q F = some (r8 F) := rfl
theorem zo_48 {T : Nat → Nat × Nat} {S : Nat → Nat → Int} {c : pm_M × pm_C} {a n : Nat} (h : T a = (48, n)) : (zh T S c).1 a = some (r8 (S a)) := by rw [zh_1, h]; rfl
theorem zp_48 {T : Nat → Nat × Nat} {S : Nat → Nat → Int} {c : pm_M × pm_C} {a : Nat} {F : Nat → Int} (h : T a = (48, 0)) : pm_put (zh T S c) a (r8 F) = zh T (upS S a F) c := zp_at (by rw [h]; rfl)
theorem rgf_8_0 {F : Nat → Int} {K : Value → Prop} : px_gf (some (r8 F)) 8 0 K = K (.int (zI (F 0))) := rfl
theorem rpf_8_0 {F : Nat → Int} {x : Int} {K : pm_E → Prop} : px_pf (some (r8 F)) ps_okI 8 0 (.int (zI x)) K = K (r8 (upz F 0 x)) := rfl
theorem rgf_8_1 {F : Nat → Int} {K : Value → Prop} : px_gf (some (r8 F)) 8 1 K = K (.int (zI (F 1))) := rfl
theorem rpf_8_1 {F : Nat → Int} {x : Int} {K : pm_E → Prop} : px_pf (some (r8 F)) ps_okI 8 1 (.int (zI x)) K = K (r8 (upz F 1 x)) := rfl
theorem rgf_8_2 {F : Nat → Int} {K : Value → Prop} : px_gf (some (r8 F)) 8 2 K = K (rz (F 2)) := rfl
theorem rpf_8_2 {F : Nat → Int} {a : Nat} {K : pm_E → Prop} : px_pf (some (r8 F)) ps_okR 8 2 (.ref a) K = K (r8 (upz F 2 a)) := by
  have e : r8 (upz F 2 a) = .inr (8, [.int (zI (F 0)), .int (zI (F 1)), .ref a, rz (F 3), rz (F 4), rz (F 5), rz (F 6)]) := by
    rw [← rz_nat (a := a)]
    rfl
  exact (show px_pf (some (r8 F)) ps_okR 8 2 (.ref a) K = K (.inr (8, [.int (zI (F 0)), .int (zI (F 1)), .ref a, rz (F 3), rz (F 4), rz (F 5), rz (F 6)])) from rfl).trans (congrArg K e.symm)
theorem rgf_8_3 {F : Nat → Int} {K : Value → Prop} : px_gf (some (r8 F)) 8 3 K = K (rz (F 3)) := rfl
theorem rpf_8_3 {F : Nat → Int} {a : Nat} {K : pm_E → Prop} : px_pf (some (r8 F)) ps_okR 8 3 (.ref a) K = K (r8 (upz F 3 a)) := by
  have e : r8 (upz F 3 a) = .inr (8, [.int (zI (F 0)), .int (zI (F 1)), rz (F 2), .ref a, rz (F 4), rz (F 5), rz (F 6)]) := by
    rw [← rz_nat (a := a)]
    rfl
  exact (show px_pf (some (r8 F)) ps_okR 8 3 (.ref a) K = K (.inr (8, [.int (zI (F 0)), .int (zI (F 1)), rz (F 2), .ref a, rz (F 4), rz (F 5), rz (F 6)])) from rfl).trans (congrArg K e.symm)
theorem rgf_8_4 {F : Nat → Int} {K : Value → Prop} : px_gf (some (r8 F)) 8 4 K = K (rz (F 4)) := rfl
theorem rpf_8_4 {F : Nat → Int} {a : Nat} {K : pm_E → Prop} : px_pf (some (r8 F)) ps_okR 8 4 (.ref a) K = K (r8 (upz F 4 a)) := by
  have e : r8 (upz F 4 a) = .inr (8, [.int (zI (F 0)), .int (zI (F 1)), rz (F 2), rz (F 3), .ref a, rz (F 5), rz (F 6)]) := by
    rw [← rz_nat (a := a)]
    rfl
  exact (show px_pf (some (r8 F)) ps_okR 8 4 (.ref a) K = K (.inr (8, [.int (zI (F 0)), .int (zI (F 1)), rz (F 2), rz (F 3), .ref a, rz (F 5), rz (F 6)])) from rfl).trans (congrArg K e.symm)
theorem rgf_8_5 {F : Nat → Int} {K : Value → Prop} : px_gf (some (r8 F)) 8 5 K = K (rz (F 5)) := rfl
theorem rpf_8_5 {F : Nat → Int} {a : Nat} {K : pm_E → Prop} : px_pf (some (r8 F)) ps_okR 8 5 (.ref a) K = K (r8 (upz F 5 a)) := by
  have e : r8 (upz F 5 a) = .inr (8, [.int (zI (F 0)), .int (zI (F 1)), rz (F 2), rz (F 3), rz (F 4), .ref a, rz (F 6)]) := by
    rw [← rz_nat (a := a)]
    rfl
  exact (show px_pf (some (r8 F)) ps_okR 8 5 (.ref a) K = K (.inr (8, [.int (zI (F 0)), .int (zI (F 1)), rz (F 2), rz (F 3), rz (F 4), .ref a, rz (F 6)])) from rfl).trans (congrArg K e.symm)
theorem rgf_8_6 {F : Nat → Int} {K : Value → Prop} : px_gf (some (r8 F)) 8 6 K = K (rz (F 6)) := rfl
theorem rpf_8_6 {F : Nat → Int} {a : Nat} {K : pm_E → Prop} : px_pf (some (r8 F)) ps_okR 8 6 (.ref a) K = K (r8 (upz F 6 a)) := by
  have e : r8 (upz F 6 a) = .inr (8, [.int (zI (F 0)), .int (zI (F 1)), rz (F 2), rz (F 3), rz (F 4), rz (F 5), .ref a]) := by
    rw [← rz_nat (a := a)]
    rfl
  exact (show px_pf (some (r8 F)) ps_okR 8 6 (.ref a) K = K (.inr (8, [.int (zI (F 0)), .int (zI (F 1)), rz (F 2), rz (F 3), rz (F 4), rz (F 5), .ref a])) from rfl).trans (congrArg K e.symm)
theorem zf_8 {T : Nat → Nat × Nat} {S : Nat → Nat → Int} {c : pm_M × pm_C} {q n : Nat} (h : T q = (48, n)) (h2 : S q 2 = ((q + 1 : Nat) : Int)) (h3 : S q 3 = ((q + 2 : Nat) : Int)) (h4 : S q 4 = ((q + 3 : Nat) : Int)) (h5 : S q 5 = ((q + 4 : Nat) : Int)) (h6 : S q 6 = ((q + 5 : Nat) : Int)) : zh T S c = zh (upC T q (9, 0)) S c := by
  unfold zh
  congr 1
  funext b
  by_cases hb : b = q
  · subst hb
    rw [upC_eq, h]
    change some (r8 (S b)) = some (o8 b (S b))
    unfold r8 o8
    simp only [rz_nat, h2, h3, h4, h5, h6]
  · rw [upC_ne hb]
/-- a new object of class 9 -/
def df9 : Nat → Int := fun k => if k = 3 then -1 else 0
theorem zn_49 {T : Nat → Nat × Nat} {S : Nat → Nat → Int} {c : pm_M × pm_C} {m : Nat} : pm_new (zh T S c) (.inr (9, [.int 0, .int 0, .int 0, .null, .int 0, .int 0, .int 0, .int 0, .int 0])) m = zh (upC T c.1.2.1 (49, 0)) (upS S c.1.2.1 df9) (nc c m) := zn_at rfl
theorem zc_49 {n q : Nat} {F : Nat → Int} : zc (49, n) q F = some (r9 F) := rfl
theorem zo_49 {T : Nat → Nat × Nat} {S : Nat → Nat → Int} {c : pm_M × pm_C} {a n : Nat} (h : T a = (49, n)) : (zh T S c).1 a = some (r9 (S a)) := by rw [zh_1, h]; rfl
theorem zp_49 {T : Nat → Nat × Nat} {S : Nat → Nat → Int} {c : pm_M × pm_C} {a : Nat} {F : Nat → Int} (h : T a = (49, 0)) : pm_put (zh T S c) a (r9 F) = zh T (upS S a F) c := zp_at (by rw [h]; rfl)
theorem rgf_9_0 {F : Nat → Int} {K : Value → Prop} : px_gf (some (r9 F)) 9 0 K = K (.int (zI (F 0))) := rfl
theorem rpf_9_0 {F : Nat → Int} {x : Int} {K : pm_E → Prop} : px_pf (some (r9 F)) ps_okI 9 0 (.int (zI x)) K = K (r9 (upz F 0 x)) := rfl
theorem rgf_9_1 {F : Nat → Int} {K : Value → Prop} : px_gf (some (r9 F)) 9 1 K = K (.int (zI (F 1))) := rfl
theorem rpf_9_1 {F : Nat → Int} {x : Int} {K : pm_E → Prop} : px_pf (some (r9 F)) ps_okI 9 1 (.int (zI x)) K = K (r9 (upz F 1 x)) := rfl
theorem rgf_9_2 {F : Nat → Int} {K : Value → Prop} : px_gf (some (r9 F)) 9 2 K = K (.int (zI (F 2))) := rfl
theorem rpf_9_2 {F : Nat → Int} {x : Int} {K : pm_E → Prop} : px_pf (some (r9 F)) ps_okI 9 2 (.int (zI x)) K = K (r9 (upz F 2 x)) := rfl
theorem rgf_9_3 {F : Nat → Int} {K : Value → Prop} : px_gf (some (r9 F)) 9 3 K = K (rz (F 3)) := rfl
theorem rpf_9_3 {F : Nat → Int} {a : Nat} {K : pm_E → Prop} : px_pf (some (r9 F)) ps_okR 9 3 (.ref a) K = K (r9 (upz F 3 a)) := by
  have e : r9 (upz F 3 a) = .inr (9, [.int (zI (F 0)), .int (zI (F 1)), .int (zI (F 2)), .ref a, .int (zI (F 4)), .int (zI (F 5)), .int (zI (F 6)), .int (zI (F 7)), .int (zI (F 8))]) := by
    rw [← rz_nat (a := a)]
    rfl
  exact (show px_pf (some (r9 F)) ps_okR 9 3 (.ref a) K = K (.inr (9, [.int (zI (F 0)), .int (zI (F 1)), .int (zI (F 2)), .ref a, .int (zI (F 4)), .int (zI (F 5)), .int (zI (F 6)), .int (zI (F 7)), .int (zI (F 8))])) from rfl).trans (congrArg K e.symm)
theorem rgf_9_4 {F : Nat → Int} {K : Value → Prop} : px_gf (some (r9 F)) 9 4 K = K (.int (zI (F 4))) := rfl
theorem rpf_9_4 {F : Nat → Int} {x : Int} {K : pm_E → Prop} : px_pf (some (r9 F)) ps_okI 9 4 (.int (zI x)) K = K (r9 (upz F 4 x)) := rfl
theorem rgf_9_5 {F : Nat → Int} {K : Value → Prop} : px_gf (some (r9 F)) 9 5 K = K (.int (zI (F 5))) := rfl
theorem rpf_9_5 {F : Nat → Int} {x : Int} {K : pm_E → Prop} : px_pf (some (r9 F)) ps_okI 9 5 (.int (zI x)) K = K (r9 (upz F 5 x)) := rfl
theorem rgf_9_6 {F : Nat → Int} {K : Value → Prop} : px_gf (some (r9 F)) 9 6 K = K (.int (zI (F 6))) := rfl
theorem rpf_9_6 {F : Nat → Int} {x : Int} {K : pm_E → Prop} : px_pf (some (r9 F)) ps_okI 9 6 (.int (zI x)) K = K (r9 (upz F 6 x)) := rfl
theorem rgf_9_7 {F : Nat → Int} {K : Value → Prop} : px_gf (some (r9 F)) 9 7 K = K (.int (zI (F 7))) := rfl
theorem rpf_9_7 {F : Nat → Int} {x : Int} {K : pm_E → Prop} : px_pf (some (r9 F)) ps_okI 9 7 (.int (zI x)) K = K (r9 (upz F 7 x)) := rfl
theorem rgf_9_8 {F : Nat → Int} {K : Value → Prop} : px_gf (some (r9 F)) 9 8 K = K (.int (zI (F 8))) := rfl
theorem rpf_9_8 {F : Nat → Int} {x : Int} {K : pm_E → Prop} : px_pf (some (r9 F)) ps_okI 9 8 (.int (zI x)) K = K (r9 (upz F 8 x)) := rfl
theorem zf_9 {T : Nat → Nat × Nat} {S : Nat → Nat → Int} {c : pm_M × pm_C} {q n : Nat} (h : T q = (49, n)) (h3 : S q 3 = ((q + 1 : Nat) : Int)) : zh T S c = zh (upC T q (10, 0)) S c := by
  unfold zh
  congr 1
  funext b
  by_cases hb : b = q
  · subst hb
    rw [upC_eq, h]
    change some (r9 (S b)) = some (o9 b (S b))
    unfold r9 o9
    simp only [rz_nat, h3]
  · rw [upC_ne hb]
/-- a new object of class 10 -/
def df10 : Nat → Int := fun k => if k = 0 ∨ k = 1 ∨ k = 2 ∨ k = 3 ∨ k = 4 ∨ k = 5 ∨ k = 6 ∨ k = 7 ∨ k = 9 ∨ k = 10 ∨ k = 11 ∨ k = 12 then -1 else 0
theorem zn_50 {T : Nat → Nat × Nat} {S : Nat → Nat → Int} {c : pm_M × pm_C} {m : Nat} : pm_new (zh T S c) (.inr (10, [.null, .null, .null, .null, .null, .null, .null, .null, .int 0, .null, .null, .null, .null, .int 0])) m = zh (upC T c.1.2.1 (50, 0)) (upS S c.1.2.1 df10) (nc c m) := zn_at rfl
theorem zc_50 {n q : Nat} {F : Nat → Int} : zc (50, n) q F = some (r10 F) := rfl
theorem zo_50 {T : Nat → Nat × Nat} {S : Nat → Nat → Int} {c : pm_M × pm_C} {a n : Nat} (h : T a = (50, n)) : (zh T S c).1 a = some (r10 (S a)) := by rw [zh_1, h]; rfl
theorem zp_50 {T : Nat → Nat × Nat} {S : Nat → Nat → Int} {c : pm_M × pm_C} {a : Nat} {F : Nat → Int} (h : T a = (50, 0)) : pm_put (zh T S c) a (r10 F) = zh T (upS S a F) c := zp_at (by rw [h]; rfl)
theorem rgf_10_0 {F : Nat → Int} {K : Value → Prop} : px_gf (some (r10 F)) 10 0 K = K (rz (F 0)) := rfl
theorem rpf_10_0 {F : Nat → Int} {a : Nat} {K : pm_E → Prop} : px_pf (some (r10 F)) ps_okR 10 0 (.ref a) K = K (r10 (upz F 0 a)) := by
  have e : r10 (upz F 0 a) = .inr (10, [.ref a, rz (F 1), rz (F 2), rz (F 3), rz (F 4), rz (F 5), rz (F 6), rz (F 7), .int (zI (F 8)), rz (F 9), rz (F 10), rz (F 11), rz (F 12), .int (zI (F 13))]) := by
    rw [← rz_nat (a := a)]
    rfl
  exact (show px_pf (some (r10 F)) ps_okR 10 0 (.ref a) K = K (.inr (10, [.ref a, rz (F 1), rz (F 2), rz (F 3), rz (F 4), rz (F 5), rz (F 6), rz (F 7), .int (zI (F 8)), rz (F 9), rz (F 10), rz (F 11), rz (F 12), .int (zI (F 13))])) from rfl).trans (congrArg K e.symm)
theorem rgf_10_1 {F : Nat → Int} {K : Value → Prop} : px_gf (some (r10 F)) 10 1 K = K (rz (F 1)) := rfl
theorem rpf_10_1 {F : Nat → Int} {a : Nat} {K : pm_E → Prop} : px_pf (some (r10 F)) ps_okR 10 1 (.ref a) K = K (r10 (upz F 1 a)) := by
  have e : r10 (upz F 1 a) = .inr (10, [rz (F 0), .ref a, rz (F 2), rz (F 3), rz (F 4), rz (F 5), rz (F 6), rz (F 7), .int (zI (F 8)), rz (F 9), rz (F 10), rz (F 11), rz (F 12), .int (zI (F 13))]) := by
    rw [← rz_nat (a := a)]
    rfl
  exact (show px_pf (some (r10 F)) ps_okR 10 1 (.ref a) K = K (.inr (10, [rz (F 0), .ref a, rz (F 2), rz (F 3), rz (F 4), rz (F 5), rz (F 6), rz (F 7), .int (zI (F 8)), rz (F 9), rz (F 10), rz (F 11), rz (F 12), .int (zI (F 13))])) from rfl).trans (congrArg K e.symm)
theorem rgf_10_2 {F : Nat → Int} {K : Value → Prop} : px_gf (some (r10 F)) 10 2 K = K (rz (F 2)) := rfl
theorem rpf_10_2 {F : Nat → Int} {a : Nat} {K : pm_E → Prop} : px_pf (some (r10 F)) ps_okR 10 2 (.ref a) K = K (r10 (upz F 2 a)) := by
  have e : r10 (upz F 2 a) = .inr (10, [rz (F 0), rz (F 1), .ref a, rz (F 3), rz (F 4), rz (F 5), rz (F 6), rz (F 7), .int (zI (F 8)), rz (F 9), rz (F 10), rz (F 11), rz (F 12), .int (zI (F 13))]) := by
    rw [← rz_nat (a := a)]
    rfl
  exact (show px_pf (some (r10 F)) ps_okR 10 2 (.ref a) K = K (.inr (10, [rz (F 0), rz (F 1), .ref a, rz (F 3), rz (F 4), rz (F 5), rz (F 6), rz (F 7), .int (zI (F 8)), rz (F 9), rz (F 10), rz (F 11), rz (F 12), .int (zI (F 13))])) from rfl).trans (congrArg K e.symm)
theorem rgf_10_3 {F : Nat → Int} {K : Value → Prop} : px_gf (some (r10 F)) 10 3 K = K (rz (F 3)) := rfl
theorem rpf_10_3 {F : Nat → Int} {a : Nat} {K : pm_E → Prop} : px_pf (some (r10 F)) ps_okR 10 3 (.ref a) K = K (r10 (upz F 3 a)) := by
  have e : r10 (upz F 3 a) = .inr (10, [rz (F 0), rz (F 1), rz (F 2), .ref a, rz (F 4), rz (F 5), rz (F 6), rz (F 7), .int (zI (F 8)), rz (F 9), rz (F 10), rz (F 11), rz (F 12), .int (zI (F 13))]) := by
    rw [← rz_nat (a := a)]
    rfl
  exact (show px_pf (some (r10 F)) ps_okR 10 3 (.ref a) K = K (.inr (10, [rz (F 0), rz (F 1), rz (F 2), .ref a, rz (F 4), rz (F 5), rz (F 6), rz (F 7), .int (zI (F 8)), rz (F 9), rz (F 10), rz (F 11), rz (F 12), .int (zI (F 13))])) from rfl).trans (congrArg K e.symm)
theorem rgf_10_4 {F : Nat → Int} {K : Value → Prop} : px_gf (some (r10 F)) 10 4 K = K (rz (F 4)) := rfl
theorem rpf_10_4 {F : Nat → Int} {a : Nat} {K : pm_E → Prop} : px_pf (some (r10 F)) ps_okR 10 4 (.ref a) K = K (r10 (upz F 4 a)) := by
  have e : r10 (upz F 4 a) = .inr (10, [rz (F 0), rz (F 1), rz (F 2), rz (F 3), .ref a, rz (F 5), rz (F 6), rz (F 7), .int (zI (F 8)), rz (F 9), rz (F 10), rz (F 11), rz (F 12), .int (zI (F 13))]) := by
    rw [← rz_nat (a := a)]
    rfl
  exact (show px_pf (some (r10 F)) ps_okR 10 4 (.ref a) K = K (.inr (10, [rz (F 0), rz (F 1), rz (F 2), rz (F 3), .ref a, rz (F 5), rz (F 6), rz (F 7), .int (zI (F 8)), rz (F 9), rz (F 10), rz (F 11), rz (F 12), .int (zI (F 13))])) from rfl).trans (congrArg K e.symm)
theorem rgf_10_5 {F : Nat → Int} {K : Value → Prop} : px_gf (some (r10 F)) 10 5 K = K (rz (F 5)) := rfl
theorem rpf_10_5 {F : Nat → Int} {a : Nat} {K : pm_E → Prop} : px_pf (some (r10 F)) ps_okR 10 5 (.ref a) K = K (r10 (upz F 5 a)) := by
  have e : r10 (upz F 5 a) = .inr (10, [rz (F 0), rz (F 1), rz (F 2), rz (F 3), rz (F 4), .ref a, rz (F 6), rz (F 7), .int (zI (F 8)), rz (F 9), rz (F 10), rz (F 11), rz (F 12), .int (zI (F 13))]) := by
    rw [← rz_nat (a := a)]
    rfl
  exact (show px_pf (some (r10 F)) ps_okR 10 5 (.ref a) K = K (.inr (10, [rz (F 0), rz (F 1), rz (F 2), rz (F 3), rz (F 4), .ref a, rz (F 6), rz (F 7), .int (zI (F 8)), rz (F 9), rz (F 10), rz (F 11), rz (F 12), .int (zI (F 13))])) from rfl).trans (congrArg K e.symm)
theorem rgf_10_6 {F : Nat → Int} {K : Value → Prop} : px_gf (some (r10 F)) 10 6 K = K (rz (F 6)) := rfl
theorem rpf_10_6 {F : Nat → Int} {a : Nat} {K : pm_E → Prop} : px_pf (some (r10 F)) ps_okR 10 6 (.ref a) K = K (r10 (upz F 6 a)) := by
  have e : r10 (upz F 6 a) = .inr (10, [rz (F 0), rz (F 1), rz (F 2), rz (F 3), rz (F 4), rz (F 5), .ref a, rz (F 7), .int (zI (F 8)), rz (F 9), rz (F 10), rz (F 11), rz (F 12), .int (zI (F 13))]) := by
    rw [← rz_nat (a := a)]
    rfl
  exact (show px_pf (some (r10 F)) ps_okR 10 6 (.ref a) K = K (.inr (10, [rz (F 0), rz (F 1), rz (F 2), rz (F 3), rz (F 4), rz (F 5), .ref a, rz (F 7), .int (zI (F 8)), rz (F 9), rz (F 10), rz (F 11), rz (F 12), .int (zI (F 13))])) from rfl).trans (congrArg K e.symm)
theorem rgf_10_7 {F : Nat → Int} {K : Value → Prop} : px_gf (some (r10 F)) 10 7 K = K (rz (F 7)) := rfl
theorem rpf_10_7 {F : Nat → Int} {a : Nat} {K : pm_E → Prop} : px_pf (some (r10 F)) ps_okR 10 7 (.ref a) K = K (r10 (upz F 7 a)) := by
  have e : r10 (upz F 7 a) = .inr (10, [rz (F 0), rz (F 1), rz (F 2), rz (F 3), rz (F 4), rz (F 5), rz (F 6), .ref a, .int (zI (F 8)), rz (F 9), rz (F 10), rz (F 11), rz (F 12), .int (zI (F 13))]) := by
    rw [← rz_nat (a := a)]
    rfl
  exact (show px_pf (some (r10 F)) ps_okR 10 7 (.ref a) K = K (.inr (10, [rz (F 0), rz (F 1), rz (F 2), rz (F 3), rz (F 4), rz (F 5), rz (F 6), .ref a, .int (zI (F 8)), rz (F 9), rz (F 10), rz (F 11), rz (F 12), .int (zI (F 13))])) from rfl).trans (congrArg K e.symm)
theorem rgf_10_8 {F : Nat → Int} {K : Value → Prop} : px_gf (some (r10 F)) 10 8 K = K (.int (zI (F 8))) := rfl
theorem rpf_10_8 {F : Nat → Int} {K : pm_E → Prop} : px_pf (some (r10 F)) ps_okZ 10 8 (.int (zI 0)) K = K (r10 (upz F 8 0)) := rfl
theorem rgf_10_9 {F : Nat → Int} {K : Value → Prop} : px_gf (some (r10 F)) 10 9 K = K (rz (F 9)) := rfl
theorem rpf_10_9 {F : Nat → Int} {a : Nat} {K : pm_E → Prop} : px_pf (some (r10 F)) ps_okR 10 9 (.ref a) K = K (r10 (upz F 9 a)) := by
  have e : r10 (upz F 9 a) = .inr (10, [rz (F 0), rz (F 1), rz (F 2), rz (F 3), rz (F 4), rz (F 5), rz (F 6), rz (F 7), .int (zI (F 8)), .ref a, rz (F 10), rz (F 11), rz (F 12), .int (zI (F 13))]) := by
    rw [← rz_nat (a := a)]
    rfl
  exact (show px_pf (some (r10 F)) ps_okR 10 9 (.ref a) K = K (.inr (10, [rz (F 0), rz (F 1), rz (F 2), rz (F 3), rz (F 4), rz (F 5), rz (F 6), rz (F 7), .int (zI (F 8)), .ref a, rz (F 10), rz (F 11), rz (F 12), .int (zI (F 13))])) from rfl).trans (congrArg K e.symm)
theorem rgf_10_10 {F : Nat → Int} {K : Value → Prop} : px_gf (some (r10 F)) 10 10 K = K (rz (F 10)) := rfl
theorem rpf_10_10 {F : Nat → Int} {a : Nat} {K : pm_E → Prop} : px_pf (some (r10 F)) ps_okR 10 10 (.ref a) K = K (r10 (upz F 10 a)) := by
  have e : r10 (upz F 10 a) = .inr (10, [rz (F 0), rz (F 1), rz (F 2), rz (F 3), rz (F 4), rz (F 5), rz (F 6), rz (F 7), .int (zI (F 8)), rz (F 9), .ref a, rz (F 11), rz (F 12), .int (zI (F 13))]) := by
    rw [← rz_nat (a := a)]
    rfl
  exact (show px_pf (some (r10 F)) ps_okR 10 10 (.ref a) K = K (.inr (10, [rz (F 0), rz (F 1), rz (F 2), rz (F 3), rz (F 4), rz (F 5), rz (F 6), rz (F 7), .int (zI (F 8)), rz (F 9), .ref a, rz (F 11), rz (F 12), .int (zI (F 13))])) from rfl).trans (congrArg K e.symm)
theorem rgf_10_11 {F : Nat → Int} {K : Value → Prop} : px_gf (some (r10 F)) 10 11 K = K (rz (F 11)) := rfl
theorem rpf_10_11 {F : Nat → Int} {a : Nat} {K : pm_E → Prop} : px_pf (some (r10 F)) ps_okR 10 11 (.ref a) K = K (r10 (upz F 11 a)) := by
  have e : r10 (upz F 11 a) = .inr (10, [rz (F 0), rz (F 1), rz (F 2), rz (F 3), rz (F 4), rz (F 5), rz (F 6), rz (F 7), .int (zI (F 8)), rz (F 9), rz (F 10), .ref a, rz (F 12), .int (zI (F 13))]) := by
    rw [← rz_nat (a := a)]
    rfl
  exact (show px_pf (some (r10 F)) ps_okR 10 11 (.ref a) K = K (.inr (10, [rz (F 0), rz (F 1), rz (F 2), rz (F 3), rz (F 4), rz (F 5), rz (F 6), rz (F 7), .int (zI (F 8)), rz (F 9), rz (F 10), .ref a, rz (F 12), .int (zI (F 13))])) from rfl).trans (congrArg K e.symm)
theorem rgf_10_12 {F : Nat → Int} {K : Value → Prop} : px_gf (some (r10 F)) 10 12 K = K (rz (F 12)) := rfl
theorem rpf_10_12 {F : Nat → Int} {a : Nat} {K : pm_E → Prop} : px_pf (some (r10 F)) ps_okR 10 12 (.ref a) K = K (r10 (upz F 12 a)) := by
  have e : r10 (upz F 12 a) = .inr (10, [rz (F 0), rz (F 1), rz (F 2), rz (F 3), rz (F 4), rz (F 5), rz (F 6), rz (F 7), .int (zI (F 8)), rz (F 9), rz (F 10), rz (F 11), .ref a, .int (zI (F 13))]) := by
    rw [← rz_nat (a := a)]
    rfl
  exact (show px_pf (some (r10 F)) ps_okR 10 12 (.ref a) K = K (.inr (10, [rz (F 0), rz (F 1), rz (F 2), rz (F 3), rz (F 4), rz (F 5), rz (F 6), rz (F 7), .int (zI (F 8)), rz (F 9), rz (F 10), rz (F 11), .ref a, .int (zI (F 13))])) from rfl).trans (congrArg K e.symm)
theorem rgf_10_13 {F : Nat → Int} {K : Value → Prop} : px_gf (some (r10 F)) 10 13 K = K (.int (zI (F 13))) := rfl
theorem rpf_10_13 {F : Nat → Int} {x : Int} {K : pm_E → Prop} : px_pf (some (r10 F)) ps_okI 10 13 (.int (zI x)) K = K (r10 (upz F 13 x)) := rfl
theorem zf_10 {T : Nat → Nat × Nat} {S : Nat → Nat → Int} {c : pm_M × pm_C} {q n : Nat} (h : T q = (50, n)) (h0 : S q 0 = ((q + 1 : Nat) : Int)) (h1 : S q 1 = ((q + 3 : Nat) : Int)) (h2 : S q 2 = ((q + 6 : Nat) : Int)) (h3 : 0 ≤ S q 3) (h4 : 0 ≤ S q 4) (h5 : S q 5 = ((q + 25 : Nat) : Int)) (h6 : S q 6 = ((q + 34 : Nat) : Int)) (h7 : S q 7 = ((q + 40 : Nat) : Int)) (h9 : S q 9 = ((q + 46 : Nat) : Int)) (h10 : S q 10 = ((q + 55 : Nat) : Int)) (h11 : S q 11 = ((q + 132 : Nat) : Int)) (h12 : S q 12 = ((q + 145 : Nat) : Int)) : zh T S c = zh (upC T q (11, 0)) S c := by
  unfold zh
  congr 1
  funext b
  by_cases hb : b = q
  · subst hb
    rw [upC_eq, h]
    change some (r10 (S b)) = some (o10 b (S b))
    unfold r10 o10
    simp only [rz_nat, h0, h1, h2, rz_pos h3, rz_pos h4, h5, h6, h7, h9, h10, h11, h12]
  · rw [upC_ne hb]
/-- a new object of class 11 -/
def df11 : Nat → Int := fun k => if k = 0 ∨ k = 2 ∨ k = 3 ∨ k = 4 ∨ k = 5 ∨ k = 6 ∨ k = 7 ∨ k = 8 ∨ k = 9 ∨ k = 10 ∨ k = 23 ∨ k = 24 ∨ k = 25 ∨ k = 26 ∨ k = 27 ∨ k = 28 ∨ k = 29 ∨ k = 30 ∨ k = 31 ∨ k = 32 ∨ k = 33 ∨ k = 34 ∨ k = 42 ∨ k = 43 ∨ k = 47 ∨ k = 48 ∨ k = 49 ∨ k = 50 ∨ k = 55 ∨ k = 56 ∨ k = 57 ∨ k = 62 ∨ k = 63 ∨ k = 64 ∨ k = 65 then -1 else 0
theorem zn_51 {T : Nat → Nat × Nat} {S : Nat → Nat → Int} {c : pm_M × pm_C} {m : Nat} : pm_new (zh T S c) (.inr (11, [.null, .int 0, .null, .null, .null, .null, .null, .null, .null, .null, .null, .int 0, .int 0, .int 0, .int 0, .int 0, .int 0, .int 0, .int 0, .int 0, .int 0, .int 0, .int 0, .null, .null, .null, .null, .null, .null, .null, .null, .null, .null, .null, .null, .int 0, .int 0, .int 0, .int 0, .int 0, .int 0, .int 0, .null, .null, .int 0, .int 0, .int 0, .null, .null, .null, .null, .int 0, .int 0, .int 0, .int 0, .null, .null, .null, .int 0, .int 0, .int 0, .int 0, .null, .null, .null, .null])) m = zh (upC T c.1.2.1 (51, 0)) (upS S c.1.2.1 df11) (nc c m) := zn_at rfl
theorem zc_51 {n q : Nat} {F : Nat → Int} : zc (51, n) q F = some (r11 F) := rfl
theorem zo_51 {T : Nat → Nat × Nat} {S : Nat → Nat → Int} {c : pm_M × pm_C} {a n : Nat} (h : T a = (51, n)) : (zh T S c).1 a = some (r11 (S a)) := by rw [zh_1, h]; rfl
theorem zp_51 {T : Nat → Nat × Nat} {S : Nat → Nat → Int} {c : pm_M × pm_C} {a : Nat} {F : Nat → Int} (h : T a = (51, 0)) : pm_put (zh T S c) a (r11 F) = zh T (upS S a F) c := zp_at (by rw [h]; rfl)
theorem rgf_11_0 {F : Nat → Int} {K : Value → Prop} : px_gf (some (r11 F)) 11 0 K = K (rz (F 0)) := rfl
theorem rpf_11_0 {F : Nat → Int} {a : Nat} {K : pm_E → Prop} : px_pf (some (r11 F)) ps_okR 11 0 (.ref a) K = K (r11 (upz F 0 a)) := by
  have e : r11 (upz F 0 a) = .inr (11, [.ref a, .int (zI (F 1)), rz (F 2), rz (F 3), rz (F 4), rz (F 5), rz (F 6), rz (F 7), rz (F 8), rz (F 9), rz (F 10), .int (zI (F 11)), .int (zI (F 12)), .int (zI (F 13)), .int (zI (F 14)), .int (zI (F 15)), .int (zI (F 16)), .int (zI (F 17)), .int (zI (F 18)), .int (zI (F 19)), .int (zI (F 20)), .int (zI (F 21)), .int (zI (F 22)), rz (F 23), rz (F 24), rz (F 25), rz (F 26), rz (F 27), rz (F 28), rz (F 29), rz (F 30), rz (F 31), rz (F 32), rz (F 33), rz (F 34), .int (zI (F 35)), .int (zI (F 36)), .int (zI (F 37)), .int (zI (F 38)), .int (zI (F 39)), .int (zI (F 40)), .int (zI (F 41)), rz (F 42), rz (F 43), .int (zI (F 44)), .int (zI (F 45)), .int (zI (F 46)), rz (F 47), rz (F 48), rz (F 49), rz (F 50), .int (zI (F 51)), .int (zI (F 52)), .int (zI (F 53)), .int (zI (F 54)), rz (F 55), rz (F 56), rz (F 57), .int (zI (F 58)), .int (zI (F 59)), .int (zI (F 60)), .int (zI (F 61)), rz (F 62), rz (F 63), rz (F 64), rz (F 65)]) := by
    rw [← rz_nat (a := a)]
    rfl
  exact (show px_pf (some (r11 F)) ps_okR 11 0 (.ref a) K = K (.inr (11, [.ref a, .int (zI (F 1)), rz (F 2), rz (F 3), rz (F 4), rz (F 5), rz (F 6), rz (F 7), rz (F 8), rz (F 9), rz (F 10), .int (zI (F 11)), .int (zI (F 12)), .int (zI (F 13)), .int (zI (F 14)), .int (zI (F 15)), .int (zI (F 16)), .int (zI (F 17)), .int (zI (F 18)), .int (zI (F 19)), .int (zI (F 20)), .int (zI (F 21)), .int (zI (F 22)), rz (F 23), rz (F 24), rz (F 25), rz (F 26), rz (F 27), rz (F 28), rz (F 29), rz (F 30), rz (F 31), rz (F 32), rz (F 33), rz (F 34), .int (zI (F 35)), .int (zI (F 36)), .int (zI (F 37)), .int (zI (F 38)), .int (zI (F 39)), .int (zI (F 40)), .int (zI (F 41)), rz (F 42), rz (F 43), .int (zI (F 44)), .int (zI (F 45)), .int (zI (F 46)), rz (F 47), rz (F 48), rz (F 49), rz (F 50), .int (zI (F 51)), .int (zI (F 52)), .int (zI (F 53)), .int (zI (F 54)), rz (F 55), rz (F 56), rz (F 57), .int (zI (F 58)), .int (zI (F 59)), .int (zI (F 60)), .int (zI (F 61)), rz (F 62), rz (F 63), rz (F 64), rz (F 65)])) from rfl).trans (congrArg K e.symm)
theorem rgf_11_1 {F : Nat → Int} {K : Value → Prop} : px_gf (some (r11 F)) 11 1 K = K (.int (zI (F 1))) := rfl
theorem rpf_11_1 {F : Nat → Int} {x : Int} {K : pm_E → Prop} : px_pf (some (r11 F)) ps_okI 11 1 (.int (zI x)) K = K (r11 (upz F 1 x)) := rfl
theorem rgf_11_2 {F : Nat → Int} {K : Value → Prop} : px_gf (some (r11 F)) 11 2 K = K (rz (F 2)) := rfl
theorem rpf_11_2 {F : Nat → Int} {a : Nat} {K : pm_E → Prop} : px_pf (some (r11 F)) ps_okR 11 2 (.ref a) K = K (r11 (upz F 2 a)) := by
  have e : r11 (upz F 2 a) = .inr (11, [rz (F 0), .int (zI (F 1)), .ref a, rz (F 3), rz (F 4), rz (F 5), rz (F 6), rz (F 7), rz (F 8), rz (F 9), rz (F 10), .int (zI (F 11)), .int (zI (F 12)), .int (zI (F 13)), .int (zI (F 14)), .int (zI (F 15)), .int (zI (F 16)), .int (zI (F 17)), .int (zI (F 18)), .int (zI (F 19)), .int (zI (F 20)), .int (zI (F 21)), .int (zI (F 22)), rz (F 23), rz (F 24), rz (F 25), rz (F 26), rz (F 27), rz (F 28), rz (F 29), rz (F 30), rz (F 31), rz (F 32), rz (F 33), rz (F 34), .int (zI (F 35)), .int (zI (F 36)), .int (zI (F 37)), .int (zI (F 38)), .int (zI (F 39)), .int (zI (F 40)), .int (zI (F 41)), rz (F 42), rz (F 43), .int (zI (F 44)), .int (zI (F 45)), .int (zI (F 46)), rz (F 47), rz (F 48), rz (F 49), rz (F 50), .int (zI (F 51)), .int (zI (F 52)), .int (zI (F 53)), .int (zI (F 54)), rz (F 55), rz (F 56), rz (F 57), .int (zI (F 58)), .int (zI (F 59)), .int (zI (F 60)), .int (zI (F 61)), rz (F 62), rz (F 63), rz (F 64), rz (F 65)]) := by
    rw [← rz_nat (a := a)]
    rfl
  exact (show px_pf (some (r11 F)) ps_okR 11 2 (.ref a) K = K (.inr (11, [rz (F 0), .int (zI (F 1)), .ref a, rz (F 3), rz (F 4), rz (F 5), rz (F 6), rz (F 7), rz (F 8), rz (F 9), rz (F 10), .int (zI (F 11)), .int (zI (F 12)), .int (zI (F 13)), .int (zI (F 14)), .int (zI (F 15)), .int (zI (F 16)), .int (zI (F 17)), .int (zI (F 18)), .int (zI (F 19)), .int (zI (F 20)), .int (zI (F 21)), .int (zI (F 22)), rz (F 23), rz (F 24), rz (F 25), rz (F 26), rz (F 27), rz (F 28), rz (F 29), rz (F 30), rz (F 31), rz (F 32), rz (F 33), rz (F 34), .int (zI (F 35)), .int (zI (F 36)), .int (zI (F 37)), .int (zI (F 38)), .int (zI (F 39)), .int (zI (F 40)), .int (zI (F 41)), rz (F 42), rz (F 43), .int (zI (F 44)), .int (zI (F 45)), .int (zI (F 46)), rz (F 47), rz (F 48), rz (F 49), rz (F 50), .int (zI (F 51)), .int (zI (F 52)), .int (zI (F 53)), .int (zI (F 54)), rz (F 55), rz (F 56), rz (F 57), .int (zI (F 58)), .int (zI (F 59)), .int (zI (F 60)), .int (zI (F 61)), rz (F 62), rz (F 63), rz (F 64), rz (F 65)])) from rfl).trans (congrArg K e.symm)
theorem rgf_11_3 {F : Nat → Int} {K : Value → Prop} : px_gf (some (r11 F)) 11 3 K = K (rz (F 3)) := rfl
theorem rpf_11_3 {F : Nat → Int} {a : Nat} {K : pm_E → Prop} : px_pf (some (r11 F)) ps_okR 11 3 (.ref a) K = K (r11 (upz F 3 a)) := by
  have e : r11 (upz F 3 a) = .inr (11, [rz (F 0), .int (zI (F 1)), rz (F 2), .ref a, rz (F 4), rz (F 5), rz (F 6), rz (F 7), rz (F 8), rz (F 9), rz (F 10), .int (zI (F 11)), .int (zI (F 12)), .int (zI (F 13)), .int (zI (F 14)), .int (zI (F 15)), .int (zI (F 16)), .int (zI (F 17)), .int (zI (F 18)), .int (zI (F 19)), .int (zI (F 20)), .int (zI (F 21)), .int (zI (F 22)), rz (F 23), rz (F 24), rz (F 25), rz (F 26), rz (F 27), rz (F 28), rz (F 29), rz (F 30), rz (F 31), rz (F 32), rz (F 33), rz (F 34), .int (zI (F 35)), .int (zI (F 36)), .int (zI (F 37)), .int (zI (F 38)), .int (zI (F 39)), .int (zI (F 40)), .int (zI (F 41)), rz (F 42), rz (F 43), .int (zI (F 44)), .int (zI (F 45)), .int (zI (F 46)), rz (F 47), rz (F 48), rz (F 49), rz (F 50), .int (zI (F 51)), .int (zI (F 52)), .int (zI (F 53)), .int (zI (F 54)), rz (F 55), rz (F 56), rz (F 57), .int (zI (F 58)), .int (zI (F 59)), .int (zI (F 60)), .int (zI (F 61)), rz (F 62), rz (F 63), rz (F 64), rz (F 65)]) := by
    rw [← rz_nat (a := a)]
    rfl
  exact (show px_pf (some (r11 F)) ps_okR 11 3 (.ref a) K = K (.inr (11, [rz (F 0), .int (zI (F 1)), rz (F 2), .ref a, rz (F 4), rz (F 5), rz (F 6), rz (F 7), rz (F 8), rz (F 9), rz (F 10), .int (zI (F 11)), .int (zI (F 12)), .int (zI (F 13)), .int (zI (F 14)), .int (zI (F 15)), .int (zI (F 16)), .int (zI (F 17)), .int (zI (F 18)), .int (zI (F 19)), .int (zI (F 20)), .int (zI (F 21)), .int (zI (F 22)), rz (F 23), rz (F 24), rz (F 25), rz (F 26), rz (F 27), rz (F 28), rz (F 29), rz (F 30), rz (F 31), rz (F 32), rz (F 33), rz (F 34), .int (zI (F 35)), .int (zI (F 36)), .int (zI (F 37)), .int (zI (F 38)), .int (zI (F 39)), .int (zI (F 40)), .int (zI (F 41)), rz (F 42), rz (F 43), .int (zI (F 44)), .int (zI (F 45)), .int (zI (F 46)), rz (F 47), rz (F 48), rz (F 49), rz (F 50), .int (zI (F 51)), .int (zI (F 52)), .int (zI (F 53)), .int (zI (F 54)), rz (F 55), rz (F 56), rz (F 57), .int (zI (F 58)), .int (zI (F 59)), .int (zI (F 60)), .int (zI (F 61)), rz (F 62), rz (F 63), rz (F 64), rz (F 65)])) from rfl).trans (congrArg K e.symm)
theorem rgf_11_4 {F : Nat → Int} {K : Value → Prop} : px_gf (some (r11 F)) 11 4 K = K (rz (F 4)) := rfl
theorem rpf_11_4 {F : Nat → Int} {a : Nat} {K : pm_E → Prop} : px_pf (some (r11 F)) ps_okR 11 4 (.ref a) K = K (r11 (upz F 4 a)) := by
  have e : r11 (upz F 4 a) = .inr (11, [rz (F 0), .int (zI (F 1)), rz (F 2), rz (F 3), .ref a, rz (F 5), rz (F 6), rz (F 7), rz (F 8), rz (F 9), rz (F 10), .int (zI (F 11)), .int (zI (F 12)), .int (zI (F 13)), .int (zI (F 14)), .int (zI (F 15)), .int (zI (F 16)), .int (zI (F 17)), .int (zI (F 18)), .int (zI (F 19)), .int (zI (F 20)), .int (zI (F 21)), .int (zI (F 22)), rz (F 23), rz (F 24), rz (F 25), rz (F 26), rz (F 27), rz (F 28), rz (F 29), rz (F 30), rz (F 31), rz (F 32), rz (F 33), rz (F 34), .int (zI (F 35)), .int (zI (F 36)), .int (zI (F 37)), .int (zI (F 38)), .int (zI (F 39)), .int (zI (F 40)), .int (zI (F 41)), rz (F 42), rz (F 43), .int (zI (F 44)), .int (zI (F 45)), .int (zI (F 46)), rz (F 47), rz (F 48), rz (F 49), rz (F 50), .int (zI (F 51)), .int (zI (F 52)), .int (zI (F 53)), .int (zI (F 54)), rz (F 55), rz (F 56), rz (F 57), .int (zI (F 58)), .int (zI (F 59)), .int (zI (F 60)), .int (zI (F 61)), rz (F 62), rz (F 63), rz (F 64), rz (F 65)]) := by
    rw [← rz_nat (a := a)]
    rfl
  exact (show px_pf (some (r11 F)) ps_okR 11 4 (.ref a) K = K (.inr (11, [rz (F 0), .int (zI (F 1)), rz (F 2), rz (F 3), .ref a, rz (F 5), rz (F 6), rz (F 7), rz (F 8), rz (F 9), rz (F 10), .int (zI (F 11)), .int (zI (F 12)), .int (zI (F 13)), .int (zI (F 14)), .int (zI (F 15)), .int (zI (F 16)), .int (zI (F 17)), .int (zI (F 18)), .int (zI (F 19)), .int (zI (F 20)), .int (zI (F 21)), .int (zI (F 22)), rz (F 23), rz (F 24), rz (F 25), rz (F 26), rz (F 27), rz (F 28), rz (F 29), rz (F 30), rz (F 31), rz (F 32), rz (F 33), rz (F 34), .int (zI (F 35)), .int (zI (F 36)), .int (zI (F 37)), .int (zI (F 38)), .int (zI (F 39)), .int (zI (F 40)), .int (zI (F 41)), rz (F 42), rz (F 43), .int (zI (F 44)), .int (zI (F 45)), .int (zI (F 46)), rz (F 47), rz (F 48), rz (F 49), rz (F 50), .int (zI (F 51)), .int (zI (F 52)), .int (zI (F 53)), .int (zI (F 54)), rz (F 55), rz (F 56), rz (F 57), .int (zI (F 58)), .int (zI (F 59)), .int (zI (F 60)), .int (zI (F 61)), rz (F 62), rz (F 63), rz (F 64), rz (F 65)])) from rfl).trans (congrArg K e.symm)
theorem rgf_11_5 {F : Nat → Int} {K : Value → Prop} : px_gf (some (r11 F)) 11 5 K = K (rz (F 5)) := rfl
theorem rpf_11_5 {F : Nat → Int} {a : Nat} {K : pm_E → Prop} : px_pf (some (r11 F)) ps_okR 11 5 (.ref a) K = K (r11 (upz F 5 a)) := by
  have e : r11 (upz F 5 a) = .inr (11, [rz (F 0), .int (zI (F 1)), rz (F 2), rz (F 3), rz (F 4), .ref a, rz (F 6), rz (F 7), rz (F 8), rz (F 9), rz (F 10), .int (zI (F 11)), .int (zI (F 12)), .int (zI (F 13)), .int (zI (F 14)), .int (zI (F 15)), .int (zI (F 16)), .int (zI (F 17)), .int (zI (F 18)), .int (zI (F 19)), .int (zI (F 20)), .int (zI (F 21)), .int (zI (F 22)), rz (F 23), rz (F 24), rz (F 25), rz (F 26), rz (F 27), rz (F 28), rz (F 29), rz (F 30), rz (F 31), rz (F 32), rz (F 33), rz (F 34), .int (zI (F 35)), .int (zI (F 36)), .int (zI (F 37)), .int (zI (F 38)), .int (zI (F 39)), .int (zI (F 40)), .int (zI (F 41)), rz (F 42), rz (F 43), .int (zI (F 44)), .int (zI (F 45)), .int (zI (F 46)), rz (F 47), rz (F 48), rz (F 49), rz (F 50), .int (zI (F 51)), .int (zI (F 52)), .int (zI (F 53)), .int (zI (F 54)), rz (F 55), rz (F 56), rz (F 57), .int (zI (F 58)), .int (zI (F 59)), .int (zI (F 60)), .int (zI (F 61)), rz (F 62), rz (F 63), rz (F 64), rz (F 65)]) := by
    rw [← rz_nat (a := a)]
    rfl
  exact (show px_pf (some (r11 F)) ps_okR 11 5 (.ref a) K = K (.inr (11, [rz (F 0), .int (zI (F 1)), rz (F 2), rz (F 3), rz (F 4), .ref a, rz (F 6), rz (F 7), rz (F 8), rz (F 9), rz (F 10), .int (zI (F 11)), .int (zI (F 12)), .int (zI (F 13)), .int (zI (F 14)), .int (zI (F 15)), .int (zI (F 16)), .int (zI (F 17)), .int (zI (F 18)), .int (zI (F 19)), .int (zI (F 20)), .int (zI (F 21)), .int (zI (F 22)), rz (F 23), rz (F 24), rz (F 25), rz (F 26), rz (F 27), rz (F 28), rz (F 29), rz (F 30), rz (F 31), rz (F 32), rz (F 33), rz (F 34), .int (zI (F 35)), .int (zI (F 36)), .int (zI (F 37)), .int (zI (F 38)), .int (zI (F 39)), .int (zI (F 40)), .int (zI (F 41)), rz (F 42), rz (F 43), .int (zI (F 44)), .int (zI (F 45)), .int (zI (F 46)), rz (F 47), rz (F 48), rz (F 49), rz (F 50), .int (zI (F 51)), .int (zI (F 52)), .int (zI (F 53)), .int (zI (F 54)), rz (F 55), rz (F 56), rz (F 57), .int (zI (F 58)), .int (zI (F 59)), .int (zI (F 60)), .int (zI (F 61)), rz (F 62), rz (F 63), rz (F 64), rz (F 65)])) from rfl).trans (congrArg K e.symm)
theorem rgf_11_6 {F : Nat → Int} {K : Value → Prop} : px_gf (some (r11 F)) 11 6 K = K (rz (F 6)) := rfl
theorem rpf_11_6 {F : Nat → Int} {a : Nat} {K : pm_E → Prop} : px_pf (some (r11 F)) ps_okR 11 6 (.ref a) K = K (r11 (upz F 6 a)) := by
  have e : r11 (upz F 6 a) = .inr (11, [rz (F 0), .int (zI (F 1)), rz (F 2), rz (F 3), rz (F 4), rz (F 5), .ref a, rz (F 7), rz (F 8), rz (F 9), rz (F 10), .int (zI (F 11)), .int (zI (F 12)), .int (zI (F 13)), .int (zI (F 14)), .int (zI (F 15)), .int (zI (F 16)), .int (zI (F 17)), .int (zI (F 18)), .int (zI (F 19)), .int (zI (F 20)), .int (zI (F 21)), .int (zI (F 22)), rz (F 23), rz (F 24), rz (F 25), rz (F 26), rz (F 27), rz (F 28), rz (F 29), rz (F 30), rz (F 31), rz (F 32), rz (F 33), rz (F 34), .int (zI (F 35)), .int (zI (F 36)), .int (zI (F 37)), .int (zI (F 38)), .int (zI (F 39)), .int (zI (F 40)), .int (zI (F 41)), rz (F 42), rz (F 43), .int (zI (F 44)), .int (zI (F 45)), .int (zI (F 46)), rz (F 47), rz (F 48), rz (F 49), rz (F 50), .int (zI (F 51)), .int (zI (F 52)), .int (zI (F 53)), .int (zI (F 54)), rz (F 55), rz (F 56), rz (F 57), .int (zI (F 58)), .int (zI (F 59)), .int (zI (F 60)), .int (zI (F 61)), rz (F 62), rz (F 63), rz (F 64), rz (F 65)]) := by
    rw [← rz_nat (a := a)]
    rfl
  exact (show px_pf (some (r11 F)) ps_okR 11 6 (.ref a) K = K (.inr (11, [rz (F 0), .int (zI (F 1)), rz (F 2), rz (F 3), rz (F 4), rz (F 5), .ref a, rz (F 7), rz (F 8), rz (F 9), rz (F 10), .int (zI (F 11)), .int (zI (F 12)), .int (zI (F 13)), .int (zI (F 14)), .int (zI (F 15)), .int (zI (F 16)), .int (zI (F 17)), .int (zI (F 18)), .int (zI (F 19)), .int (zI (F 20)), .int (zI (F 21)), .int (zI (F 22)), rz (F 23), rz (F 24), rz (F 25), rz (F 26), rz (F 27), rz (F 28), rz (F 29), rz (F 30), rz (F 31), rz (F 32), rz (F 33), rz (F 34), .int (zI (F 35)), .int (zI (F 36)), .int (zI (F 37)), .int (zI (F 38)), .int (zI (F 39)), .int (zI (F 40)), .int (zI (F 41)), rz (F 42), rz (F 43), .int (zI (F 44)), .int (zI (F 45)), .int (zI (F 46)), rz (F 47), rz (F 48), rz (F 49), rz (F 50), .int (zI (F 51)), .int (zI (F 52)), .int (zI (F 53)), .int (zI (F 54)), rz (F 55), rz (F 56), rz (F 57), .int (zI (F 58)), .int (zI (F 59)), .int (zI (F 60)), .int (zI (F 61)), rz (F 62), rz (F 63), rz (F 64), rz (F 65)])) from rfl).trans (congrArg K e.symm)
theorem rgf_11_7 {F : Nat → Int} {K : Value → Prop} : px_gf (some (r11 F)) 11 7 K = K (rz (F 7)) := rfl
theorem rpf_11_7 {F : Nat → Int} {a : Nat} {K : pm_E → Prop} : px_pf (some (r11 F)) ps_okR 11 7 (.ref a) K = K (r11 (upz F 7 a)) := by
  have e : r11 (upz F 7 a) = .inr (11, [rz (F 0), .int (zI (F 1)), rz (F 2), rz (F 3), rz (F 4), rz (F 5), rz (F 6), .ref a, rz (F 8), rz (F 9), rz (F 10), .int (zI (F 11)), .int (zI (F 12)), .int (zI (F 13)), .int (zI (F 14)), .int (zI (F 15)), .int (zI (F 16)), .int (zI (F 17)), .int (zI (F 18)), .int (zI (F 19)), .int (zI (F 20)), .int (zI (F 21)), .int (zI (F 22)), rz (F 23), rz (F 24), rz (F 25), rz (F 26), rz (F 27), rz (F 28), rz (F 29), rz (F 30), rz (F 31), rz (F 32), rz (F 33), rz (F 34), .int (zI (F 35)), .int (zI (F 36)), .int (zI (F 37)), .int (zI (F 38)), .int (zI (F 39)), .int (zI (F 40)), .int (zI (F 41)), rz (F 42), rz (F 43), .int (zI (F 44)), .int (zI (F 45)), .int (zI (F 46)), rz (F 47), rz (F 48), rz (F 49), rz (F 50), .int (zI (F 51)), .int (zI (F 52)), .int (zI (F 53)), .int (zI (F 54)), rz (F 55), rz (F 56), rz (F 57), .int (zI (F 58)), .int (zI (F 59)), .int (zI (F 60)), .int (zI (F 61)), rz (F 62), rz (F 63), rz (F 64), rz (F 65)]) := by
    rw [← rz_nat (a := a)]
    rfl
  exact (show px_pf (some (r11 F)) ps_okR 11 7 (.ref a) K = K (.inr (11, [rz (F 0), .int (zI (F 1)), rz (F 2), rz (F 3), rz (F 4), rz (F 5), rz (F 6), .ref a, rz (F 8), rz (F 9), rz (F 10), .int (zI (F 11)), .int (zI (F 12)), .int (zI (F 13)), .int (zI (F 14)), .int (zI (F 15)), .int (zI (F 16)), .int (zI (F 17)), .int (zI (F 18)), .int (zI (F 19)), .int (zI (F 20)), .int (zI (F 21)), .int (zI (F 22)), rz (F 23), rz (F 24), rz (F 25), rz (F 26), rz (F 27), rz (F 28), rz (F 29), rz (F 30), rz (F 31), rz (F 32), rz (F 33), rz (F 34), .int (zI (F 35)), .int (zI (F 36)), .int (zI (F 37)), .int (zI (F 38)), .int (zI (F 39)), .int (zI (F 40)), .int (zI (F 41)), rz (F 42), rz (F 43), .int (zI (F 44)), .int (zI (F 45)), .int (zI (F 46)), rz (F 47), rz (F 48), rz (F 49), rz (F 50), .int (zI (F 51)), .int (zI (F 52)), .int (zI (F 53)), .int (zI (F 54)), rz (F 55), rz (F 56), rz (F 57), .int (zI (F 58)), .int (zI (F 59)), .int (zI (F 60)), .int (zI (F 61)), rz (F 62), rz (F 63), rz (F 64), rz (F 65)])) from rfl).trans (congrArg K e.symm)
theorem rgf_11_8 {F : Nat → Int} {K : Value → Prop} : px_gf (some (r11 F)) 11 8 K = K (rz (F 8)) := rfl
theorem rpf_11_8 {F : Nat → Int} {a : Nat} {K : pm_E → Prop} : px_pf (some (r11 F)) ps_okR 11 8 (.ref a) K = K (r11 (upz F 8 a)) := by
  have e : r11 (upz F 8 a) = .inr (11, [rz (F 0), .int (zI (F 1)), rz (F 2), rz (F 3), rz (F 4), rz (F 5), rz (F 6), rz (F 7), .ref a, rz (F 9), rz (F 10), .int (zI (F 11)), .int (zI (F 12)), .int (zI (F 13)), .int (zI (F 14)), .int (zI (F 15)), .int (zI (F 16)), .int (zI (F 17)), .int (zI (F 18)), .int (zI (F 19)), .int (zI (F 20)), .int (zI (F 21)), .int (zI (F 22)), rz (F 23), rz (F 24), rz (F 25), rz (F 26), rz (F 27), rz (F 28), rz (F 29), rz (F 30), rz (F 31), rz (F 32), rz (F 33), rz (F 34), .int (zI (F 35)), .int (zI (F 36)), .int (zI (F 37)), .int (zI (F 38)), .int (zI (F 39)), .int (zI (F 40)), .int (zI (F 41)), rz (F 42), rz (F 43), .int (zI (F 44)), .int (zI (F 45)), .int (zI (F 46)), rz (F 47), rz (F 48), rz (F 49), rz (F 50), .int (zI (F 51)), .int (zI (F 52)), .int (zI (F 53)), .int (zI (F 54)), rz (F 55), rz (F 56), rz (F 57), .int (zI (F 58)), .int (zI (F 59)), .int (zI (F 60)), .int (zI (F 61)), rz (F 62), rz (F 63), rz (F 64), rz (F 65)]) := by
    rw [← rz_nat (a := a)]
    rfl
  exact (show px_pf (some (r11 F)) ps_okR 11 8 (.ref a) K = K (.inr (11, [rz (F 0), .int (zI (F 1)), rz (F 2), rz (F 3), rz (F 4), rz (F 5), rz (F 6), rz (F 7), .ref a, rz (F 9), rz (F 10), .int (zI (F 11)), .int (zI (F 12)), .int (zI (F 13)), .int (zI (F 14)), .int (zI (F 15)), .int (zI (F 16)), .int (zI (F 17)), .int (zI (F 18)), .int (zI (F 19)), .int (zI (F 20)), .int (zI (F 21)), .int (zI (F 22)), rz (F 23), rz (F 24), rz (F 25), rz (F 26), rz (F 27), rz (F 28), rz (F 29), rz (F 30), rz (F 31), rz (F 32), rz (F 33), rz (F 34), .int (zI (F 35)), .int (zI (F 36)), .int (zI (F 37)), .int (zI (F 38)), .int (zI (F 39)), .int (zI (F 40)), .int (zI (F 41)), rz (F 42), rz (F 43), .int (zI (F 44)), .int (zI (F 45)), .int (zI (F 46)), rz (F 47), rz (F 48), rz (F 49), rz (F 50), .int (zI (F 51)), .int (zI (F 52)), .int (zI (F 53)), .int (zI (F 54)), rz (F 55), rz (F 56), rz (F 57), .int (zI (F 58)), .int (zI (F 59)), .int (zI (F 60)), .int (zI (F 61)), rz (F 62), rz (F 63), rz (F 64), rz (F 65)])) from rfl).trans (congrArg K e.symm)
theorem rgf_11_9 {F : Nat → Int} {K : Value → Prop} : px_gf (some (r11 F)) 11 9 K = K (rz (F 9)) := rfl
theorem rpf_11_9 {F : Nat → Int} {a : Nat} {K : pm_E → Prop} : px_pf (some (r11 F)) ps_okR 11 9 (.ref a) K = K (r11 (upz F 9 a)) := by
  have e : r11 (upz F 9 a) = .inr (11, [rz (F 0), .int (zI (F 1)), rz (F 2), rz (F 3), rz (F 4), rz (F 5), rz (F 6), rz (F 7), rz (F 8), .ref a, rz (F 10), .int (zI (F 11)), .int (zI (F 12)), .int (zI (F 13)), .int (zI (F 14)), .int (zI (F 15)), .int (zI (F 16)), .int (zI (F 17)), .int (zI (F 18)), .int (zI (F 19)), .int (zI (F 20)), .int (zI (F 21)), .int (zI (F 22)), rz (F 23), rz (F 24), rz (F 25), rz (F 26), rz (F 27), rz (F 28), rz (F 29), rz (F 30), rz (F 31), rz (F 32), rz (F 33), rz (F 34), .int (zI (F 35)), .int (zI (F 36)), .int (zI (F 37)), .int (zI (F 38)), .int (zI (F 39)), .int (zI (F 40)), .int (zI (F 41)), rz (F 42), rz (F 43), .int (zI (F 44)), .int (zI (F 45)), .int (zI (F 46)), rz (F 47), rz (F 48), rz (F 49), rz (F 50), .int (zI (F 51)), .int (zI (F 52)), .int (zI (F 53)), .int (zI (F 54)), rz (F 55), rz (F 56), rz (F 57), .int (zI (F 58)), .int (zI (F 59)), .int (zI (F 60)), .int (zI (F 61)), rz (F 62), rz (F 63), rz (F 64), rz (F 65)]) := by
    rw [← rz_nat (a := a)]
    rfl
  exact (show px_pf (some (r11 F)) ps_okR 11 9 (.ref a) K = K (.inr (11, [rz (F 0), .int (zI (F 1)), rz (F 2), rz (F 3), rz (F 4), rz (F 5), rz (F 6), rz (F 7), rz (F 8), .ref a, rz (F 10), .int (zI (F 11)), .int (zI (F 12)), .int (zI (F 13)), .int (zI (F 14)), .int (zI (F 15)), .int (zI (F 16)), .int (zI (F 17)), .int (zI (F 18)), .int (zI (F 19)), .int (zI (F 20)), .int (zI (F 21)), .int (zI (F 22)), rz (F 23), rz (F 24), rz (F 25), rz (F 26), rz (F 27), rz (F 28), rz (F 29), rz (F 30), rz (F 31), rz (F 32), rz (F 33), rz (F 34), .int (zI (F 35)), .int (zI (F 36)), .int (zI (F 37)), .int (zI (F 38)), .int (zI (F 39)), .int (zI (F 40)), .int (zI (F 41)), rz (F 42), rz (F 43), .int (zI (F 44)), .int (zI (F 45)), .int (zI (F 46)), rz (F 47), rz (F 48), rz (F 49), rz (F 50), .int (zI (F 51)), .int (zI (F 52)), .int (zI (F 53)), .int (zI (F 54)), rz (F 55), rz (F 56), rz (F 57), .int (zI (F 58)), .int (zI (F 59)), .int (zI (F 60)), .int (zI (F 61)), rz (F 62), rz (F 63), rz (F 64), rz (F 65)])) from rfl).trans (congrArg K e.symm)
theorem rgf_11_10 {F : Nat → Int} {K : Value → Prop} : px_gf (some (r11 F)) 11 10 K = K (rz (F 10)) := rfl
theorem rpf_11_10 {F : Nat → Int} {a : Nat} {K : pm_E → Prop} : px_pf (some (r11 F)) ps_okR 11 10 (.ref a) K = K (r11 (upz F 10 a)) := by
  have e : r11 (upz F 10 a) = .inr (11, [rz (F 0), .int (zI (F 1)), rz (F 2), rz (F 3), rz (F 4), rz (F 5), rz (F 6), rz (F 7), rz (F 8), rz (F 9), .ref a, .int (zI (F 11)), .int (zI (F 12)), .int (zI (F 13)), .int (zI (F 14)), .int (zI (F 15)), .int (zI (F 16)), .int (zI (F 17)), .int (zI (F 18)), .int (zI (F 19)), .int (zI (F 20)), .int (zI (F 21)), .int (zI (F 22)), rz (F 23), rz (F 24), rz (F 25), rz (F 26), rz (F 27), rz (F 28), rz (F 29), rz (F 30), rz (F 31), rz (F 32), rz (F 33), rz (F 34), .int (zI (F 35)), .int (zI (F 36)), .int (zI (F 37)), .int (zI (F 38)), .int (zI (F 39)), .int (zI (F 40)), .int (zI (F 41)), rz (F 42), rz (F 43), .int (zI (F 44)), .int (zI (F 45)), .int (zI (F 46)), rz (F 47), rz (F 48), rz (F 49), rz (F 50), .int (zI (F 51)), .int (zI (F 52)), .int (zI (F 53)), .int (zI (F 54)), rz (F 55), rz (F 56), rz (F 57), .int (zI (F 58)), .int (zI (F 59)), .int (zI (F 60)), .int (zI (F 61)), rz (F 62), rz (F 63), rz (F 64), rz (F 65)]) := by
    rw [← rz_nat (a := a)]
    rfl
  exact (show px_pf (some (r11 F)) ps_okR 11 10 (.ref a) K = K (.inr (11, [rz (F 0), .int (zI (F 1)), rz (F 2), rz (F 3), rz (F 4), rz (F 5), rz (F 6), rz (F 7), rz (F 8), rz (F 9), .ref a, .int (zI (F 11)), .int (zI (F 12)), .int (zI (F 13)), .int (zI (F 14)), .int (zI (F 15)), .int (zI (F 16)), .int (zI (F 17)), .int (zI (F 18)), .int (zI (F 19)), .int (zI (F 20)), .int (zI (F 21)), .int (zI (F 22)), rz (F 23), rz (F 24), rz (F 25), rz (F 26), rz (F 27), rz (F 28), rz (F 29), rz (F 30), rz (F 31), rz (F 32), rz (F 33), rz (F 34), .int (zI (F 35)), .int (zI (F 36)), .int (zI (F 37)), .int (zI (F 38)), .int (zI (F 39)), .int (zI (F 40)), .int (zI (F 41)), rz (F 42), rz (F 43), .int (zI (F 44)), .int (zI (F 45)), .int (zI (F 46)), rz (F 47), rz (F 48), rz (F 49), rz (F 50), .int (zI (F 51)), .int (zI (F 52)), .int (zI (F 53)), .int (zI (F 54)), rz (F 55), rz (F 56), rz (F 57), .int (zI (F 58)), .int (zI (F 59)), .int (zI (F 60)), .int (zI (F 61)), rz (F 62), rz (F 63), rz (F 64), rz (F 65)])) from rfl).trans (congrArg K e.symm)
theorem rgf_11_11 {F : Nat → Int} {K : Value → Prop} : px_gf (some (r11 F)) 11 11 K = K (.int (zI (F 11))) := rfl
theorem rpf_11_11 {F : Nat → Int} {x : Int} {K : pm_E → Prop} : px_pf (some (r11 F)) ps_okI 11 11 (.int (zI x)) K = K (r11 (upz F 11 x)) := rfl
theorem rgf_11_12 {F : Nat → Int} {K : Value → Prop} : px_gf (some (r11 F)) 11 12 K = K (.int (zI (F 12))) := rfl
theorem rpf_11_12 {F : Nat → Int} {x : Int} {K : pm_E → Prop} : px_pf (some (r11 F)) ps_okI 11 12 (.int (zI x)) K = K (r11 (upz F 12 x)) := rfl
theorem rgf_11_13 {F : Nat → Int} {K : Value → Prop} : px_gf (some (r11 F)) 11 13 K = K (.int (zI (F 13))) := rfl
theorem rpf_11_13 {F : Nat → Int} {x : Int} {K : pm_E → Prop} : px_pf (some (r11 F)) ps_okI 11 13 (.int (zI x)) K = K (r11 (upz F 13 x)) := rfl
theorem rgf_11_14 {F : Nat → Int} {K : Value → Prop} : px_gf (some (r11 F)) 11 14 K = K (.int (zI (F 14))) := rfl
theorem rpf_11_14 {F : Nat → Int} {x : Int} {K : pm_E → Prop} : px_pf (some (r11 F)) ps_okI 11 14 (.int (zI x)) K = K (r11 (upz F 14 x)) := rfl
theorem rgf_11_15 {F : Nat → Int} {K : Value → Prop} : px_gf (some (r11 F)) 11 15 K = K (.int (zI (F 15))) := rfl
theorem rpf_11_15 {F : Nat → Int} {x : Int} {K : pm_E → Prop} : px_pf (some (r11 F)) ps_okI 11 15 (.int (zI x)) K = K (r11 (upz F 15 x)) := rfl
theorem rgf_11_16 {F : Nat → Int} {K : Value → Prop} : px_gf (some (r11 F)) 11 16 K = K (.int (zI (F 16))) := rfl
theorem rpf_11_16 {F : Nat → Int} {x : Int} {K : pm_E → Prop} : px_pf (some (r11 F)) ps_okI 11 16 (.int (zI x)) K = K (r11 (upz F 16 x)) := rfl
theorem rgf_11_17 {F : Nat → Int} {K : Value → Prop} : px_gf (some (r11 F)) 11 17 K = K (.int (zI (F 17))) := rfl
theorem rpf_11_17 {F : Nat → Int} {x : Int} {K : pm_E → Prop} : px_pf (some (r11 F)) ps_okI 11 17 (.int (zI x)) K = K (r11 (upz F 17 x)) := rfl
theorem rgf_11_18 {F : Nat → Int} {K : Value → Prop} : px_gf (some (r11 F)) 11 18 K = K (.int (zI (F 18))) := rfl
theorem rpf_11_18 {F : Nat → Int} {x : Int} {K : pm_E → Prop} : px_pf (some (r11 F)) ps_okI 11 18 (.int (zI x)) K = K (r11 (upz F 18 x)) := rfl
theorem rgf_11_19 {F : Nat → Int} {K : Value → Prop} : px_gf (some (r11 F)) 11 19 K = K (.int (zI (F 19))) := rfl
theorem rpf_11_19 {F : Nat → Int} {x : Int} {K : pm_E → Prop} : px_pf (some (r11 F)) ps_okI 11 19 (.int (zI x)) K = K (r11 (upz F 19 x)) := rfl
theorem rgf_11_20 {F : Nat → Int} {K : Value → Prop} : px_gf (some (r11 F)) 11 20 K = K (.int (zI (F 20))) := rfl
theorem rpf_11_20 {F : Nat → Int} {x : Int} {K : pm_E → Prop} : px_pf (some (r11 F)) ps_okI 11 20 (.int (zI x)) K = K (r11 (upz F 20 x)) := rfl
theorem rgf_11_21 {F : Nat → Int} {K : Value → Prop} : px_gf (some (r11 F)) 11 21 K = K (.int (zI (F 21))) := rfl
theorem rpf_11_21 {F : Nat → Int} {x : Int} {K : pm_E → Prop} : px_pf (some (r11 F)) ps_okI 11 21 (.int (zI x)) K = K (r11 (upz F 21 x)) := rfl
theorem rgf_11_22 {F : Nat → Int} {K : Value → Prop} : px_gf (some (r11 F)) 11 22 K = K (.int (zI (F 22))) := rfl
theorem rpf_11_22 {F : Nat → Int} {x : Int} {K : pm_E → Prop} : px_pf (some (r11 F)) ps_okI 11 22 (.int (zI x)) K = K (r11 (upz F 22 x)) := rfl
theorem rgf_11_23 {F : Nat → Int} {K : Value → Prop} : px_gf (some (r11 F)) 11 23 K = K (rz (F 23)) := rfl
theorem rpf_11_23 {F : Nat → Int} {a : Nat} {K : pm_E → Prop} : px_pf (some (r11 F)) ps_okR 11 23 (.ref a) K = K (r11 (upz F 23 a)) := by
  have e : r11 (upz F 23 a) = .inr (11, [rz (F 0), .int (zI (F 1)), rz (F 2), rz (F 3), rz (F 4), rz (F 5), rz (F 6), rz (F 7), rz (F 8), rz (F 9), rz (F 10), .int (zI (F 11)), .int (zI (F 12)), .int (zI (F 13)), .int (zI (F 14)), .int (zI (F 15)), .int (zI (F 16)), .int (zI (F 17)), .int (zI (F 18)), .int (zI (F 19)), .int (zI (F 20)), .int (zI (F 21)), .int (zI (F 22)), .ref a, rz (F 24), rz (F 25), rz (F 26), rz (F 27), rz (F 28), rz (F 29), rz (F 30), rz (F 31), rz (F 32), rz (F 33), rz (F 34), .int (zI (F 35)), .int (zI (F 36)), .int (zI (F 37)), .int (zI (F 38)), .int (zI (F 39)), .int (zI (F 40)), .int (zI (F 41)), rz (F 42), rz (F 43), .int (zI (F 44)), .int (zI (F 45)), .int (zI (F 46)), rz (F 47), rz (F 48), rz (F 49), rz (F 50), .int (zI (F 51)), .int (zI (F 52)), .int (zI (F 53)), .int (zI (F 54)), rz (F 55), rz (F 56), rz (F 57), .int (zI (F 58)), .int (zI (F 59)), .int (zI (F 60)), .int (zI (F 61)), rz (F 62), rz (F 63), rz (F 64), rz (F 65)]) := by
    rw [← rz_nat (a := a)]
    rfl
  exact (show px_pf (some (r11 F)) ps_okR 11 23 (.ref a) K = K (.inr (11, [rz (F 0), .int (zI (F 1)), rz (F 2), rz (F 3), rz (F 4), rz (F 5), rz (F 6), rz (F 7), rz (F 8), rz (F 9), rz (F 10), .int (zI (F 11)), .int (zI (F 12)), .int (zI (F 13)), .int (zI (F 14)), .int (zI (F 15)), .int (zI (F 16)), .int (zI (F 17)), .int (zI (F 18)), .int (zI (F 19)), .int (zI (F 20)), .int (zI (F 21)), .int (zI (F 22)), .ref a, rz (F 24), rz (F 25), rz (F 26), rz (F 27), rz (F 28), rz (F 29), rz (F 30), rz (F 31), rz (F 32), rz (F 33), rz (F 34), .int (zI (F 35)), .int (zI (F 36)), .int (zI (F 37)), .int (zI (F 38)), .int (zI (F 39)), .int (zI (F 40)), .int (zI (F 41)), rz (F 42), rz (F 43), .int (zI (F 44)), .int (zI (F 45)), .int (zI (F 46)), rz (F 47), rz (F 48), rz (F 49), rz (F 50), .int (zI (F 51)), .int (zI (F 52)), .int (zI (F 53)), .int (zI (F 54)), rz (F 55), rz (F 56), rz (F 57), .int (zI (F 58)), .int (zI (F 59)), .int (zI (F 60)), .int (zI (F 61)), rz (F 62), rz (F 63), rz (F 64), rz (F 65)])) from rfl).trans (congrArg K e.symm)
theorem rgf_11_24 {F : Nat → Int} {K : Value → Prop} : px_gf (some (r11 F)) 11 24 K = K (rz (F 24)) := rfl
theorem rpf_11_24 {F : Nat → Int} {a : Nat} {K : pm_E → Prop} : px_pf (some (r11 F)) ps_okR 11 24 (.ref a) K = K (r11 (upz F 24 a)) := by
  have e : r11 (upz F 24 a) = .inr (11, [rz (F 0), .int (zI (F 1)), rz (F 2), rz (F 3), rz (F 4), rz (F 5), rz (F 6), rz (F 7), rz (F 8), rz (F 9), rz (F 10), .int (zI (F 11)), .int (zI (F 12)), .int (zI (F 13)), .int (zI (F 14)), .int (zI (F 15)), .int (zI (F 16)), .int (zI (F 17)), .int (zI (F 18)), .int (zI (F 19)), .int (zI (F 20)), .int (zI (F 21)), .int (zI (F 22)), rz (F 23), .ref a, rz (F 25), rz (F 26), rz (F 27), rz (F 28), rz (F 29), rz (F 30), rz (F 31), rz (F 32), rz (F 33), rz (F 34), .int (zI (F 35)), .int (zI (F 36)), .int (zI (F 37)), .int (zI (F 38)), .int (zI (F 39)), .int (zI (F 40)), .int (zI (F 41)), rz (F 42), rz (F 43), .int (zI (F 44)), .int (zI (F 45)), .int (zI (F 46)), rz (F 47), rz (F 48), rz (F 49), rz (F 50), .int (zI (F 51)), .int (zI (F 52)), .int (zI (F 53)), .int (zI (F 54)), rz (F 55), rz (F 56), rz (F 57), .int (zI (F 58)), .int (zI (F 59)), .int (zI (F 60)), .int (zI (F 61)), rz (F 62), rz (F 63), rz (F 64), rz (F 65)]) := by
    rw [← rz_nat (a := a)]
    rfl
  exact (show px_pf (some (r11 F)) ps_okR 11 24 (.ref a) K = K (.inr (11, [rz (F 0), .int (zI (F 1)), rz (F 2), rz (F 3), rz (F 4), rz (F 5), rz (F 6), rz (F 7), rz (F 8), rz (F 9), rz (F 10), .int (zI (F 11)), .int (zI (F 12)), .int (zI (F 13)), .int (zI (F 14)), .int (zI (F 15)), .int (zI (F 16)), .int (zI (F 17)), .int (zI (F 18)), .int (zI (F 19)), .int (zI (F 20)), .int (zI (F 21)), .int (zI (F 22)), rz (F 23), .ref a, rz (F 25), rz (F 26), rz (F 27), rz (F 28), rz (F 29), rz (F 30), rz (F 31), rz (F 32), rz (F 33), rz (F 34), .int (zI (F 35)), .int (zI (F 36)), .int (zI (F 37)), .int (zI (F 38)), .int (zI (F 39)), .int (zI (F 40)), .int (zI (F 41)), rz (F 42), rz (F 43), .int (zI (F 44)), .int (zI (F 45)), .int (zI (F 46)), rz (F 47), rz (F 48), rz (F 49), rz (F 50), .int (zI (F 51)), .int (zI (F 52)), .int (zI (F 53)), .int (zI (F 54)), rz (F 55), rz (F 56), rz (F 57), .int (zI (F 58)), .int (zI (F 59)), .int (zI (F 60)), .int (zI (F 61)), rz (F 62), rz (F 63), rz (F 64), rz (F 65)])) from rfl).trans (congrArg K e.symm)
theorem rgf_11_25 {F : Nat → Int} {K : Value → Prop} : px_gf (some (r11 F)) 11 25 K = K (rz (F 25)) := rfl
theorem rpf_11_25 {F : Nat → Int} {a : Nat} {K : pm_E → Prop} : px_pf (some (r11 F)) ps_okR 11 25 (.ref a) K = K (r11 (upz F 25 a)) := by
  have e : r11 (upz F 25 a) = .inr (11, [rz (F 0), .int (zI (F 1)), rz (F 2), rz (F 3), rz (F 4), rz (F 5), rz (F 6), rz (F 7), rz (F 8), rz (F 9), rz (F 10), .int (zI (F 11)), .int (zI (F 12)), .int (zI (F 13)), .int (zI (F 14)), .int (zI (F 15)), .int (zI (F 16)), .int (zI (F 17)), .int (zI (F 18)), .int (zI (F 19)), .int (zI (F 20)), .int (zI (F 21)), .int (zI (F 22)), rz (F 23), rz (F 24), .ref a, rz (F 26), rz (F 27), rz (F 28), rz (F 29), rz (F 30), rz (F 31), rz (F 32), rz (F 33), rz (F 34), .int (zI (F 35)), .int (zI (F 36)), .int (zI (F 37)), .int (zI (F 38)), .int (zI (F 39)), .int (zI (F 40)), .int (zI (F 41)), rz (F 42), rz (F 43), .int (zI (F 44)), .int (zI (F 45)), .int (zI (F 46)), rz (F 47), rz (F 48), rz (F 49), rz (F 50), .int (zI (F 51)), .int (zI (F 52)), .int (zI (F 53)), .int (zI (F 54)), rz (F 55), rz (F 56), rz (F 57), .int (zI (F 58)), .int (zI (F 59)), .int (zI (F 60)), .int (zI (F 61)), rz (F 62), rz (F 63), rz (F 64), rz (F 65)]) := by
    rw [← rz_nat (a := a)]
    rfl
  exact (show px_pf (some (r11 F)) ps_okR 11 25 (.ref a) K = K (.inr (11, [rz (F 0), .int (zI (F 1)), rz (F 2), rz (F 3), rz (F 4), rz (F 5), rz (F 6), rz (F 7), rz (F 8), rz (F 9), rz (F 10), .int (zI (F 11)), .int (zI (F 12)), .int (zI (F 13)), .int (zI (F 14)), .int (zI (F 15)), .int (zI (F 16)), .int (zI (F 17)), .int (zI (F 18)), .int (zI (F 19)), .int (zI (F 20)), .int (zI (F 21)), .int (zI (F 22)), rz (F 23), rz (F 24), .ref a, rz (F 26), rz (F 27), rz (F 28), rz (F 29), rz (F 30), rz (F 31), rz (F 32), rz (F 33), rz (F 34), .int (zI (F 35)), .int (zI (F 36)), .int (zI (F 37)), .int (zI (F 38)), .int (zI (F 39)), .int (zI (F 40)), .int (zI (F 41)), rz (F 42), rz (F 43), .int (zI (F 44)), .int (zI (F 45)), .int (zI (F 46)), rz (F 47), rz (F 48), rz (F 49), rz (F 50), .int (zI (F 51)), .int (zI (F 52)), .int (zI (F 53)), .int (zI (F 54)), rz (F 55), rz (F 56), rz (F 57), .int (zI (F 58)), .int (zI (F 59)), .int (zI (F 60)), .int (zI (F 61)), rz (F 62), rz (F 63), rz (F 64), rz (F 65)])) from rfl).trans (congrArg K e.symm)
theorem rgf_11_26 {F : Nat → Int} {K : Value → Prop} : px_gf (some (r11 F)) 11 26 K = K (rz (F 26)) := rfl
theorem rpf_11_26 {F : Nat → Int} {a : Nat} {K : pm_E → Prop} : px_pf (some (r11 F)) ps_okR 11 26 (.ref a) K = K (r11 (upz F 26 a)) := by
  have e : r11 (upz F 26 a) = .inr (11, [rz (F 0), .int (zI (F 1)), rz (F 2), rz (F 3), rz (F 4), rz (F 5), rz (F 6), rz (F 7), rz (F 8), rz (F 9), rz (F 10), .int (zI (F 11)), .int (zI (F 12)), .int (zI (F 13)), .int (zI (F 14)), .int (zI (F 15)), .int (zI (F 16)), .int (zI (F 17)), .int (zI (F 18)), .int (zI (F 19)), .int (zI (F 20)), .int (zI (F 21)), .int (zI (F 22)), rz (F 23), rz (F 24), rz (F 25), .ref a, rz (F 27), rz (F 28), rz (F 29), rz (F 30), rz (F 31), rz (F 32), rz (F 33), rz (F 34), .int (zI (F 35)), .int (zI (F 36)), .int (zI (F 37)), .int (zI (F 38)), .int (zI (F 39)), .int (zI (F 40)), .int (zI (F 41)), rz (F 42), rz (F 43), .int (zI (F 44)), .int (zI (F 45)), .int (zI (F 46)), rz (F 47), rz (F 48), rz (F 49), rz (F 50), .int (zI (F 51)), .int (zI (F 52)), .int (zI (F 53)), .int (zI (F 54)), rz (F 55), rz (F 56), rz (F 57), .int (zI (F 58)), .int (zI (F 59)), .int (zI (F 60)), .int (zI (F 61)), rz (F 62), rz (F 63), rz (F 64), rz (F 65)]) := by
    rw [← rz_nat (a := a)]
    rfl
  exact (show px_pf (some (r11 F)) ps_okR 11 26 (.ref a) K = K (.inr (11, [rz (F 0), .int (zI (F 1)), rz (F 2), rz (F 3), rz (F 4), rz (F 5), rz (F 6), rz (F 7), rz (F 8), rz (F 9), rz (F 10), .int (zI (F 11)), .int (zI (F 12)), .int (zI (F 13)), .int (zI (F 14)), .int (zI (F 15)), .int (zI (F 16)), .int (zI (F 17)), .int (zI (F 18)), .int (zI (F 19)), .int (zI (F 20)), .int (zI (F 21)), .int (zI (F 22)), rz (F 23), rz (F 24), rz (F 25), .ref a, rz (F 27), rz (F 28), rz (F 29), rz (F 30), rz (F 31), rz (F 32), rz (F 33), rz (F 34), .int (zI (F 35)), .int (zI (F 36)), .int (zI (F 37)), .int (zI (F 38)), .int (zI (F 39)), .int (zI (F 40)), .int (zI (F 41)), rz (F 42), rz (F 43), .int (zI (F 44)), .int (zI (F 45)), .int (zI (F 46)), rz (F 47), rz (F 48), rz (F 49), rz (F 50), .int (zI (F 51)), .int (zI (F 52)), .int (zI (F 53)), .int (zI (F 54)), rz (F 55), rz (F 56), rz (F 57), .int (zI (F 58)), .int (zI (F 59)), .int (zI (F 60)), .int (zI (F 61)), rz (F 62), rz (F 63), rz (F 64), rz (F 65)])) from rfl).trans (congrArg K e.symm)
theorem rgf_11_27 {F : Nat → Int} {K : Value → Prop} : px_gf (some (r11 F)) 11 27 K = K (rz (F 27)) := rfl
theorem rpf_11_27 {F : Nat → Int} {a : Nat} {K : pm_E → Prop} : px_pf (some (r11 F)) ps_okR 11 27 (.ref a) K = K (r11 (upz F 27 a)) := by
  have e : r11 (upz F 27 a) = .inr (11, [rz (F 0), .int (zI (F 1)), rz (F 2), rz (F 3), rz (F 4), rz (F 5), rz (F 6), rz (F 7), rz (F 8), rz (F 9), rz (F 10), .int (zI (F 11)), .int (zI (F 12)), .int (zI (F 13)), .int (zI (F 14)), .int (zI (F 15)), .int (zI (F 16)), .int (zI (F 17)), .int (zI (F 18)), .int (zI (F 19)), .int (zI (F 20)), .int (zI (F 21)), .int (zI (F 22)), rz (F 23), rz (F 24), rz (F 25), rz (F 26), .ref a, rz (F 28), rz (F 29), rz (F 30), rz (F 31), rz (F 32), rz (F 33), rz (F 34), .int (zI (F 35)), .int (zI (F 36)), .int (zI (F 37)), .int (zI (F 38)), .int (zI (F 39)), .int (zI (F 40)), .int (zI (F 41)), rz (F 42), rz (F 43), .int (zI (F 44)), .int (zI (F 45)), .int (zI (F 46)), rz (F 47), rz (F 48), rz (F 49), rz (F 50), .int (zI (F 51)), .int (zI (F 52)), .int (zI (F 53)), .int (zI (F 54)), rz (F 55), rz (F 56), rz (F 57), .int (zI (F 58)), .int (zI (F 59)), .int (zI (F 60)), .int (zI (F 61)), rz (F 62), rz (F 63), rz (F 64), rz (F 65)]) := by
    rw [← rz_nat (a := a)]
    rfl
  exact (show px_pf (some (r11 F)) ps_okR 11 27 (.ref a) K = K (.inr (11, [rz (F 0), .int (zI (F 1)), rz (F 2), rz (F 3), rz (F 4), rz (F 5), rz (F 6), rz (F 7), rz (F 8), rz (F 9), rz (F 10), .int (zI (F 11)), .int (zI (F 12)), .int (zI (F 13)), .int (zI (F 14)), .int (zI (F 15)), .int (zI (F 16)), .int (zI (F 17)), .int (zI (F 18)), .int (zI (F 19)), .int (zI (F 20)), .int (zI (F 21)), .int (zI (F 22)), rz (F 23), rz (F 24), rz (F 25), rz (F 26), .ref a, rz (F 28), rz (F 29), rz (F 30), rz (F 31), rz (F 32), rz (F 33), rz (F 34), .int (zI (F 35)), .int (zI (F 36)), .int (zI (F 37)), .int (zI (F 38)), .int (zI (F 39)), .int (zI (F 40)), .int (zI (F 41)), rz (F 42), rz (F 43), .int (zI (F 44)), .int (zI (F 45)), .int (zI (F 46)), rz (F 47), rz (F 48), rz (F 49), rz (F 50), .int (zI (F 51)), .int (zI (F 52)), .int (zI (F 53)), .int (zI (F 54)), rz (F 55), rz (F 56), rz (F 57), .int (zI (F 58)), .int (zI (F 59)), .int (zI (F 60)), .int (zI (F 61)), rz (F 62), rz (F 63), rz (F 64), rz (F 65)])) from rfl).trans (congrArg K e.symm)
theorem rgf_11_28 {F : Nat → Int} {K : Value → Prop} : px_gf (some (r11 F)) 11 28 K = K (rz (F 28)) := rfl
theorem rpf_11_28 {F : Nat → Int} {a : Nat} {K : pm_E → Prop} : px_pf (some (r11 F)) ps_okR 11 28 (.ref a) K = K (r11 (upz F 28 a)) := by
  have e : r11 (upz F 28 a) = .inr (11, [rz (F 0), .int (zI (F 1)), rz (F 2), rz (F 3), rz (F 4), rz (F 5), rz (F 6), rz (F 7), rz (F 8), rz (F 9), rz (F 10), .int (zI (F 11)), .int (zI (F 12)), .int (zI (F 13)), .int (zI (F 14)), .int (zI (F 15)), .int (zI (F 16)), .int (zI (F 17)), .int (zI (F 18)), .int (zI (F 19)), .int (zI (F 20)), .int (zI (F 21)), .int (zI (F 22)), rz (F 23), rz (F 24), rz (F 25), rz (F 26), rz (F 27), .ref a, rz (F 29), rz (F 30), rz (F 31), rz (F 32), rz (F 33), rz (F 34), .int (zI (F 35)), .int (zI (F 36)), .int (zI (F 37)), .int (zI (F 38)), .int (zI (F 39)), .int (zI (F 40)), .int (zI (F 41)), rz (F 42), rz (F 43), .int (zI (F 44)), .int (zI (F 45)), .int (zI (F 46)), rz (F 47), rz (F 48), rz (F 49), rz (F 50), .int (zI (F 51)), .int (zI (F 52)), .int (zI (F 53)), .int (zI (F 54)), rz (F 55), rz (F 56), rz (F 57), .int (zI (F 58)), .int (zI (F 59)), .int (zI (F 60)), .int (zI (F 61)), rz (F 62), rz (F 63), rz (F 64), rz (F 65)]) := by
    rw [← rz_nat (a := a)]
    rfl
  exact (show px_pf (some (r11 F)) ps_okR 11 28 (.ref a) K = K (.inr (11, [rz (F 0), .int (zI (F 1)), rz (F 2), rz (F 3), rz (F 4), rz (F 5), rz (F 6), rz (F 7), rz (F 8), rz (F 9), rz (F 10), .int (zI (F 11)), .int (zI (F 12)), .int (zI (F 13)), .int (zI (F 14)), .int (zI (F 15)), .int (zI (F 16)), .int (zI (F 17)), .int (zI (F 18)), .int (zI (F 19)), .int (zI (F 20)), .int (zI (F 21)), .int (zI (F 22)), rz (F 23), rz (F 24), rz (F 25), rz (F 26), rz (F 27), .ref a, rz (F 29), rz (F 30), rz (F 31), rz (F 32), rz (F 33), rz (F 34), .int (zI (F 35)), .int (zI (F 36)), .int (zI (F 37)), .int (zI (F 38)), .int (zI (F 39)), .int (zI (F 40)), .int (zI (F 41)), rz (F 42), rz (F 43), .int (zI (F 44)), .int (zI (F 45)), .int (zI (F 46)), rz (F 47), rz (F 48), rz (F 49), rz (F 50), .int (zI (F 51)), .int (zI (F 52)), .int (zI (F 53)), .int (zI (F 54)), rz (F 55), rz (F 56), rz (F 57), .int (zI (F 58)), .int (zI (F 59)), .int (zI (F 60)), .int (zI (F 61)), rz (F 62), rz (F 63), rz (F 64), rz (F 65)])) from rfl).trans (congrArg K e.symm)
theorem rgf_11_29 {F : Nat → Int} {K : Value → Prop} : px_gf (some (r11 F)) 11 29 K = K (rz (F 29)) := rfl
theorem rpf_11_29 {F : Nat → Int} {a : Nat} {K : pm_E → Prop} : px_pf (some (r11 F)) ps_okR 11 29 (.ref a) K = K (r11 (upz F 29 a)) := by
  have e : r11 (upz F 29 a) = .inr (11, [rz (F 0), .int (zI (F 1)), rz (F 2), rz (F 3), rz (F 4), rz (F 5), rz (F 6), rz (F 7), rz (F 8), rz (F 9), rz (F 10), .int (zI (F 11)), .int (zI (F 12)), .int (zI (F 13)), .int (zI (F 14)), .int (zI (F 15)), .int (zI (F 16)), .int (zI (F 17)), .int (zI (F 18)), .int (zI (F 19)), .int (zI (F 20)), .int (zI (F 21)), .int (zI (F 22)), rz (F 23), rz (F 24), rz (F 25), rz (F 26), rz (F 27), rz (F 28), .ref a, rz (F 30), rz (F 31), rz (F 32), rz (F 33), rz (F 34), .int (zI (F 35)), .int (zI (F 36)), .int (zI (F 37)), .int (zI (F 38)), .int (zI (F 39)), .int (zI (F 40)), .int (zI (F 41)), rz (F 42), rz (F 43), .int (zI (F 44)), .int (zI (F 45)), .int (zI (F 46)), rz (F 47), rz (F 48), rz (F 49), rz (F 50), .int (zI (F 51)), .int (zI (F 52)), .int (zI (F 53)), .int (zI (F 54)), rz (F 55), rz (F 56), rz (F 57), .int (zI (F 58)), .int (zI (F 59)), .int (zI (F 60)), .int (zI (F 61)), rz (F 62), rz (F 63), rz (F 64), rz (F 65)]) := by
    rw [← rz_nat (a := a)]
    rfl
  exact (show px_pf (some (r11 F)) ps_okR 11 29 (.ref a) K = K (.inr (11, [rz (F 0), .int (zI (F 1)), rz (F 2), rz (F 3), rz (F 4), rz (F 5), rz (F 6), rz (F 7), rz (F 8), rz (F 9), rz (F 10), .int (zI (F 11)), .int (zI (F 12)), .int (zI (F 13)), .int (zI (F 14)), .int (zI (F 15)), .int (zI (F 16)), .int (zI (F 17)), .int (zI (F 18)), .int (zI (F 19)), .int (zI (F 20)), .int (zI (F 21)), .int (zI (F 22)), rz (F 23), rz (F 24), rz (F 25), rz (F 26), rz (F 27), rz (F 28), .ref a, rz (F 30), rz (F 31), rz (F 32), rz (F 33), rz (F 34), .int (zI (F 35)), .int (zI (F 36)), .int (zI (F 37)), .int (zI (F 38)), .int (zI (F 39)), .int (zI (F 40)), .int (zI (F 41)), rz (F 42), rz (F 43), .int (zI (F 44)), .int (zI (F 45)), .int (zI (F 46)), rz (F 47), rz (F 48), rz (F 49), rz (F 50), .int (zI (F 51)), .int (zI (F 52)), .int (zI (F 53)), .int (zI (F 54)), rz (F 55), rz (F 56), rz (F 57), .int (zI (F 58)), .int (zI (F 59)), .int (zI (F 60)), .int (zI (F 61)), rz (F 62), rz (F 63), rz (F 64), rz (F 65)])) from rfl).trans (congrArg K e.symm)
theorem rgf_11_30 {F : Nat → Int} {K : Value → Prop} : px_gf (some (r11 F)) 11 30 K = K (rz (F 30)) := rfl
theorem rpf_11_30 {F : Nat → Int} {a : Nat} {K : pm_E → Prop} : px_pf (some (r11 F)) ps_okR 11 30 (.ref a) K = K (r11 (upz F 30 a)) := by
  have e : r11 (upz F 30 a) = .inr (11, [rz (F 0), .int (zI (F 1)), rz (F 2), rz (F 3), rz (F 4), rz (F 5), rz (F 6), rz (F 7), rz (F 8), rz (F 9), rz (F 10), .int (zI (F 11)), .int (zI (F 12)), .int (zI (F 13)), .int (zI (F 14)), .int (zI (F 15)), .int (zI (F 16)), .int (zI (F 17)), .int (zI (F 18)), .int (zI (F 19)), .int (zI (F 20)), .int (zI (F 21)), .int (zI (F 22)), rz (F 23), rz (F 24), rz (F 25), rz (F 26), rz (F 27), rz (F 28), rz (F 29), .ref a, rz (F 31), rz (F 32), rz (F 33), rz (F 34), .int (zI (F 35)), .int (zI (F 36)), .int (zI (F 37)), .int (zI (F 38)), .int (zI (F 39)), .int (zI (F 40)), .int (zI (F 41)), rz (F 42), rz (F 43), .int (zI (F 44)), .int (zI (F 45)), .int (zI (F 46)), rz (F 47), rz (F 48), rz (F 49), rz (F 50), .int (zI (F 51)), .int (zI (F 52)), .int (zI (F 53)), .int (zI (F 54)), rz (F 55), rz (F 56), rz (F 57), .int (zI (F 58)), .int (zI (F 59)), .int (zI (F 60)), .int (zI (F 61)), rz (F 62), rz (F 63), rz (F 64), rz (F 65)]) := by
    rw [← rz_nat (a := a)]
    rfl
  exact (show px_pf (some (r11 F)) ps_okR 11 30 (.ref a) K = K (.inr (11, [rz (F 0), .int (zI (F 1)), rz (F 2), rz (F 3), rz (F 4), rz (F 5), rz (F 6), rz (F 7), rz (F 8), rz (F 9), rz (F 10), .int (zI (F 11)), .int (zI (F 12)), .int (zI (F 13)), .int (zI (F 14)), .int (zI (F 15)), .int (zI (F 16)), .int (zI (F 17)), .int (zI (F 18)), .int (zI (F 19)), .int (zI (F 20)), .int (zI (F 21)), .int (zI (F 22)), rz (F 23), rz (F 24), rz (F 25), rz (F 26), rz (F 27), rz (F 28), rz (F 29), .ref a, rz (F 31), rz (F 32), rz (F 33), rz (F 34), .int (zI (F 35)), .int (zI (F 36)), .int (zI (F 37)), .int (zI (F 38)), .int (zI (F 39)), .int (zI (F 40)), .int (zI (F 41)), rz (F 42), rz (F 43), .int (zI (F 44)), .int (zI (F 45)), .int (zI (F 46)), rz (F 47), rz (F 48), rz (F 49), rz (F 50), .int (zI (F 51)), .int (zI (F 52)), .int (zI (F 53)), .int (zI (F 54)), rz (F 55), rz (F 56), rz (F 57), .int (zI (F 58)), .int (zI (F 59)), .int (zI (F 60)), .int (zI (F 61)), rz (F 62), rz (F 63), rz (F 64), rz (F 65)])) from rfl).trans (congrArg K e.symm)
theorem rgf_11_31 {F : Nat → Int} {K : Value → Prop} : px_gf (some (r11 F)) 11 31 K = K (rz (F 31)) := rfl
theorem rpf_11_31 {F : Nat → Int} {a : Nat} {K : pm_E → Prop} : px_pf (some (r11 F)) ps_okR 11 31 (.ref a) K = K (r11 (upz F 31 a)) := by
  have e : r11 (upz F 31 a) = .inr (11, [rz (F 0), .int (zI (F 1)), rz (F 2), rz (F 3), rz (F 4), rz (F 5), rz (F 6), rz (F 7), rz (F 8), rz (F 9), rz (F 10), .int (zI (F 11)), .int (zI (F 12)), .int (zI (F 13)), .int (zI (F 14)), .int (zI (F 15)), .int (zI (F 16)), .int (zI (F 17)), .int (zI (F 18)), .int (zI (F 19)), .int (zI (F 20)), .int (zI (F 21)), .int (zI (F 22)), rz (F 23), rz (F 24), rz (F 25), rz (F 26), rz (F 27), rz (F 28), rz (F 29), rz (F 30), .ref a, rz (F 32), rz (F 33), rz (F 34), .int (zI (F 35)), .int (zI (F 36)), .int (zI (F 37)), .int (zI (F 38)), .int (zI (F 39)), .int (zI (F 40)), .int (zI (F 41)), rz (F 42), rz (F 43), .int (zI (F 44)), .int (zI (F 45)), .int (zI (F 46)), rz (F 47), rz (F 48), rz (F 49), rz (F 50), .int (zI (F 51)), .int (zI (F 52)), .int (zI (F 53)), .int (zI (F 54)), rz (F 55), rz (F 56), rz (F 57), .int (zI (F 58)), .int (zI (F 59)), .int (zI (F 60)), .int (zI (F 61)), rz (F 62), rz (F 63), rz (F 64), rz (F 65)]) := by
    rw [← rz_nat (a := a)]
    rfl
  exact (show px_pf (some (r11 F)) ps_okR 11 31 (.ref a) K = K (.inr (11, [rz (F 0), .int (zI (F 1)), rz (F 2), rz (F 3), rz (F 4), rz (F 5), rz (F 6), rz (F 7), rz (F 8), rz (F 9), rz (F 10), .int (zI (F 11)), .int (zI (F 12)), .int (zI (F 13)), .int (zI (F 14)), .int (zI (F 15)), .int (zI (F 16)), .int (zI (F 17)), .int (zI (F 18)), .int (zI (F 19)), .int (zI (F 20)), .int (zI (F 21)), .int (zI (F 22)), rz (F 23), rz (F 24), rz (F 25), rz (F 26), rz (F 27), rz (F 28), rz (F 29), rz (F 30), .ref a, rz (F 32), rz (F 33), rz (F 34), .int (zI (F 35)), .int (zI (F 36)), .int (zI (F 37)), .int (zI (F 38)), .int (zI (F 39)), .int (zI (F 40)), .int (zI (F 41)), rz (F 42), rz (F 43), .int (zI (F 44)), .int (zI (F 45)), .int (zI (F 46)), rz (F 47), rz (F 48), rz (F 49), rz (F 50), .int (zI (F 51)), .int (zI (F 52)), .int (zI (F 53)), .int (zI (F 54)), rz (F 55), rz (F 56), rz (F 57), .int (zI (F 58)), .int (zI (F 59)), .int (zI (F 60)), .int (zI (F 61)), rz (F 62), rz (F 63), rz (F 64), rz (F 65)])) from rfl).trans (congrArg K e.symm)
theorem rgf_11_32 {F : Nat → Int} {K : Value → Prop} : px_gf (some (r11 F)) 11 32 K = K (rz (F 32)) := rfl
theorem rpf_11_32 {F : Nat → Int} {a : Nat} {K : pm_E → Prop} : px_pf (some (r11 F)) ps_okR 11 32 (.ref a) K = K (r11 (upz F 32 a)) := by
  have e : r11 (upz F 32 a) = .inr (11, [rz (F 0), .int (zI (F 1)), rz (F 2), rz (F 3), rz (F 4), rz (F 5), rz (F 6), rz (F 7), rz (F 8), rz (F 9), rz (F 10), .int (zI (F 11)), .int (zI (F 12)), .int (zI (F 13)), .int (zI (F 14)), .int (zI (F 15)), .int (zI (F 16)), .int (zI (F 17)), .int (zI (F 18)), .int (zI (F 19)), .int (zI (F 20)), .int (zI (F 21)), .int (zI (F 22)), rz (F 23), rz (F 24), rz (F 25), rz (F 26), rz (F 27), rz (F 28), rz (F 29), rz (F 30), rz (F 31), .ref a, rz (F 33), rz (F 34), .int (zI (F 35)), .int (zI (F 36)), .int (zI (F 37)), .int (zI (F 38)), .int (zI (F 39)), .int (zI (F 40)), .int (zI (F 41)), rz (F 42), rz (F 43), .int (zI (F 44)), .int (zI (F 45)), .int (zI (F 46)), rz (F 47), rz (F 48), rz (F 49), rz (F 50), .int (zI (F 51)), .int (zI (F 52)), .int (zI (F 53)), .int (zI (F 54)), rz (F 55), rz (F 56), rz (F 57), .int (zI (F 58)), .int (zI (F 59)), .int (zI (F 60)), .int (zI (F 61)), rz (F 62), rz (F 63), rz (F 64), rz (F 65)]) := by
    rw [← rz_nat (a := a)]
    rfl
  exact (show px_pf (some (r11 F)) ps_okR 11 32 (.ref a) K = K (.inr (11, [rz (F 0), .int (zI (F 1)), rz (F 2), rz (F 3), rz (F 4), rz (F 5), rz (F 6), rz (F 7), rz (F 8), rz (F 9), rz (F 10), .int (zI (F 11)), .int (zI (F 12)), .int (zI (F 13)), .int (zI (F 14)), .int (zI (F 15)), .int (zI (F 16)), .int (zI (F 17)), .int (zI (F 18)), .int (zI (F 19)), .int (zI (F 20)), .int (zI (F 21)), .int (zI (F 22)), rz (F 23), rz (F 24), rz (F 25), rz (F 26), rz (F 27), rz (F 28), rz (F 29), rz (F 30), rz (F 31), .ref a, rz (F 33), rz (F 34), .int (zI (F 35)), .int (zI (F 36)), .int (zI (F 37)), .int (zI (F 38)), .int (zI (F 39)), .int (zI (F 40)), .int (zI (F 41)), rz (F 42), rz (F 43), .int (zI (F 44)), .int (zI (F 45)), .int (zI (F 46)), rz (F 47), rz (F 48), rz (F 49), rz (F 50), .int (zI (F 51)), .int (zI (F 52)), .int (zI (F 53)), .int (zI (F 54)), rz (F 55), rz (F 56), rz (F 57), .int (zI (F 58)), .int (zI (F 59)), .int (zI (F 60)), .int (zI (F 61)), rz (F 62), rz (F 63), rz (F 64), rz (F 65)])) from rfl).trans (congrArg K e.symm)
theorem rgf_11_33 {F : Nat → Int} {K : Value → Prop} : px_gf (some (r11 F)) 11 33 K = K (rz (F 33)) := rfl
theorem rpf_11_33 {F : Nat → Int} {a : Nat} {K : pm_E → Prop} : px_pf (some (r11 F)) ps_okR 11 33 (.ref a) K = K (r11 (upz F 33 a)) := by
  have e : r11 (upz F 33 a) = .inr (11, [rz (F 0), .int (zI (F 1)), rz (F 2), rz (F 3), rz (F 4), rz (F 5), rz (F 6), rz (F 7), rz (F 8), rz (F 9), rz (F 10), .int (zI (F 11)), .int (zI (F 12)), .int (zI (F 13)), .int (zI (F 14)), .int (zI (F 15)), .int (zI (F 16)), .int (zI (F 17)), .int (zI (F 18)), .int (zI (F 19)), .int (zI (F 20)), .int (zI (F 21)), .int (zI (F 22)), rz (F 23), rz (F 24), rz (F 25), rz (F 26), rz (F 27), rz (F 28), rz (F 29), rz (F 30), rz (F 31), rz (F 32), .ref a, rz (F 34), .int (zI (F 35)), .int (zI (F 36)), .int (zI (F 37)), .int (zI (F 38)), .int (zI (F 39)), .int (zI (F 40)), .int (zI (F 41)), rz (F 42), rz (F 43), .int (zI (F 44)), .int (zI (F 45)), .int (zI (F 46)), rz (F 47), rz (F 48), rz (F 49), rz (F 50), .int (zI (F 51)), .int (zI (F 52)), .int (zI (F 53)), .int (zI (F 54)), rz (F 55), rz (F 56), rz (F 57), .int (zI (F 58)), .int (zI (F 59)), .int (zI (F 60)), .int (zI (F 61)), rz (F 62), rz (F 63), rz (F 64), rz (F 65)]) := by
    rw [← rz_nat (a := a)]
    rfl
  exact (show px_pf (some (r11 F)) ps_okR 11 33 (.ref a) K = K (.inr (11, [rz (F 0), .int (zI (F 1)), rz (F 2), rz (F 3), rz (F 4), rz (F 5), rz (F 6), rz (F 7), rz (F 8), rz (F 9), rz (F 10), .int (zI (F 11)), .int (zI (F 12)), .int (zI (F 13)), .int (zI (F 14)), .int (zI (F 15)), .int (zI (F 16)), .int (zI (F 17)), .int (zI (F 18)), .int (zI (F 19)), .int (zI (F 20)), .int (zI (F 21)), .int (zI (F 22)), rz (F 23), rz (F 24), rz (F 25), rz (F 26), rz (F 27), rz (F 28), rz (F 29), rz (F 30), rz (F 31), rz (F 32), .ref a, rz (F 34), .int (zI (F 35)), .int (zI (F 36)), .int (zI (F 37)), .int (zI (F 38)), .int (zI (F 39)), .int (zI (F 40)), .int (zI (F 41)), rz (F 42), rz (F 43), .int (zI (F 44)), .int (zI (F 45)), .int (zI (F 46)), rz (F 47), rz (F 48), rz (F 49), rz (F 50), .int (zI (F 51)), .int (zI (F 52)), .int (zI (F 53)), .int (zI (F 54)), rz (F 55), rz (F 56), rz (F 57), .int (zI (F 58)), .int (zI (F 59)), .int (zI (F 60)), .int (zI (F 61)), rz (F 62), rz (F 63), rz (F 64), rz (F 65)])) from rfl).trans (congrArg K e.symm)
theorem rgf_11_34 {F : Nat → Int} {K : Value → Prop} : px_gf (some (r11 F)) 11 34 K = K (rz (F 34)) := rfl
theorem rpf_11_34 {F : Nat → Int} {a : Nat} {K : pm_E → Prop} : px_pf (some (r11 F)) ps_okR 11 34 (.ref a) K = K (r11 (upz F 34 a)) := by
  have e : r11 (upz F 34 a) = .inr (11, [rz (F 0), .int (zI (F 1)), rz (F 2), rz (F 3), rz (F 4), rz (F 5), rz (F 6), rz (F 7), rz (F 8), rz (F 9), rz (F 10), .int (zI (F 11)), .int (zI (F 12)), .int (zI (F 13)), .int (zI (F 14)), .int (zI (F 15)), .int (zI (F 16)), .int (zI (F 17)), .int (zI (F 18)), .int (zI (F 19)), .int (zI (F 20)), .int (zI (F 21)), .int (zI (F 22)), rz (F 23), rz (F 24), rz (F 25), rz (F 26), rz (F 27), rz (F 28), rz (F 29), rz (F 30), rz (F 31), rz (F 32), rz (F 33), .ref a, .int (zI (F 35)), .int (zI (F 36)), .int (zI (F 37)), .int (zI (F 38)), .int (zI (F 39)), .int (zI (F 40)), .int (zI (F 41)), rz (F 42), rz (F 43), .int (zI (F 44)), .int (zI (F 45)), .int (zI (F 46)), rz (F 47), rz (F 48), rz (F 49), rz (F 50), .int (zI (F 51)), .int (zI (F 52)), .int (zI (F 53)), .int (zI (F 54)), rz (F 55), rz (F 56), rz (F 57), .int (zI (F 58)), .int (zI (F 59)), .int (zI (F 60)), .int (zI (F 61)), rz (F 62), rz (F 63), rz (F 64), rz (F 65)]) := by
    rw [← rz_nat (a := a)]
    rfl
  exact (show px_pf (some (r11 F)) ps_okR 11 34 (.ref a) K = K (.inr (11, [rz (F 0), .int (zI (F 1)), rz (F 2), rz (F 3), rz (F 4), rz (F 5), rz (F 6), rz (F 7), rz (F 8), rz (F 9), rz (F 10), .int (zI (F 11)), .int (zI (F 12)), .int (zI (F 13)), .int (zI (F 14)), .int (zI (F 15)), .int (zI (F 16)), .int (zI (F 17)), .int (zI (F 18)), .int (zI (F 19)), .int (zI (F 20)), .int (zI (F 21)), .int (zI (F 22)), rz (F 23), rz (F 24), rz (F 25), rz (F 26), rz (F 27), rz (F 28), rz (F 29), rz (F 30), rz (F 31), rz (F 32), rz (F 33), .ref a, .int (zI (F 35)), .int (zI (F 36)), .int (zI (F 37)), .int (zI (F 38)), .int (zI (F 39)), .int (zI (F 40)), .int (zI (F 41)), rz (F 42), rz (F 43), .int (zI (F 44)), .int (zI (F 45)), .int (zI (F 46)), rz (F 47), rz (F 48), rz (F 49), rz (F 50), .int (zI (F 51)), .int (zI (F 52)), .int (zI (F 53)), .int (zI (F 54)), rz (F 55), rz (F 56), rz (F 57), .int (zI (F 58)), .int (zI (F 59)), .int (zI (F 60)), .int (zI (F 61)), rz (F 62), rz (F 63), rz (F 64), rz (F 65)])) from rfl).trans (congrArg K e.symm)
theorem rgf_11_35 {F : Nat → Int} {K : Value → Prop} : px_gf (some (r11 F)) 11 35 K = K (.int (zI (F 35))) := rfl
theorem rpf_11_35 {F : Nat → Int} {x : Int} {K : pm_E → Prop} : px_pf (some (r11 F)) ps_okI 11 35 (.int (zI x)) K = K (r11 (upz F 35 x)) := rfl
theorem rgf_11_36 {F : Nat → Int} {K : Value → Prop} : px_gf (some (r11 F)) 11 36 K = K (.int (zI (F 36))) := rfl
theorem rpf_11_36 {F : Nat → Int} {x : Int} {K : pm_E → Prop} : px_pf (some (r11 F)) ps_okI 11 36 (.int (zI x)) K = K (r11 (upz F 36 x)) := rfl
theorem rgf_11_37 {F : Nat → Int} {K : Value → Prop} : px_gf (some (r11 F)) 11 37 K = K (.int (zI (F 37))) := rfl
theorem rpf_11_37 {F : Nat → Int} {x : Int} {K : pm_E → Prop} : px_pf (some (r11 F)) ps_okI 11 37 (.int (zI x)) K = K (r11 (upz F 37 x)) := rfl
theorem rgf_11_38 {F : Nat → Int} {K : Value → Prop} : px_gf (some (r11 F)) 11 38 K = K (.int (zI (F 38))) := rfl
theorem rpf_11_38 {F : Nat → Int} {x : Int} {K : pm_E → Prop} : px_pf (some (r11 F)) ps_okI 11 38 (.int (zI x)) K = K (r11 (upz F 38 x)) := rfl
theorem rgf_11_39 {F : Nat → Int} {K : Value → Prop} : px_gf (some (r11 F)) 11 39 K = K (.int (zI (F 39))) := rfl
theorem rpf_11_39 {F : Nat → Int} {x : Int} {K : pm_E → Prop} : px_pf (some (r11 F)) ps_okI 11 39 (.int (zI x)) K = K (r11 (upz F 39 x)) := rfl
theorem rgf_11_40 {F : Nat → Int} {K : Value → Prop} : px_gf (some (r11 F)) 11 40 K = K (.int (zI (F 40))) := rfl
theorem rpf_11_40 {F : Nat → Int} {x : Int} {K : pm_E → Prop} : px_pf (some (r11 F)) ps_okI 11 40 (.int (zI x)) K = K (r11 (upz F 40 x)) := rfl
theorem rgf_11_41 {F : Nat → Int} {K : Value → Prop} : px_gf (some (r11 F)) 11 41 K = K (.int (zI (F 41))) := rfl
theorem rpf_11_41 {F : Nat → Int} {x : Int} {K : pm_E → Prop} : px_pf (some (r11 F)) ps_okI 11 41 (.int (zI x)) K = K (r11 (upz F 41 x)) := rfl
theorem rgf_11_42 {F : Nat → Int} {K : Value → Prop} : px_gf (some (r11 F)) 11 42 K = K (rz (F 42)) := rfl
theorem rpf_11_42 {F : Nat → Int} {a : Nat} {K : pm_E → Prop} : px_pf (some (r11 F)) ps_okR 11 42 (.ref a) K = K (r11 (upz F 42 a)) := by
  have e : r11 (upz F 42 a) = .inr (11, [rz (F 0), .int (zI (F 1)), rz (F 2), rz (F 3), rz (F 4), rz (F 5), rz (F 6), rz (F 7), rz (F 8), rz (F 9), rz (F 10), .int (zI (F 11)), .int (zI (F 12)), .int (zI (F 13)), .int (zI (F 14)), .int (zI (F 15)), .int (zI (F 16)), .int (zI (F 17)), .int (zI (F 18)), .int (zI (F 19)), .int (zI (F 20)), .int (zI (F 21)), .int (zI (F 22)), rz (F 23), rz (F 24), rz (F 25), rz (F 26), rz (F 27), rz (F 28), rz (F 29), rz (F 30), rz (F 31), rz (F 32), rz (F 33), rz (F 34), .int (zI (F 35)), .int (zI (F 36)), .int (zI (F 37)), .int (zI (F 38)), .int (zI (F 39)), .int (zI (F 40)), .int (zI (F 41)), .ref a, rz (F 43), .int (zI (F 44)), .int (zI (F 45)), .int (zI (F 46)), rz (F 47), rz (F 48), rz (F 49), rz (F 50), .int (zI (F 51)), .int (zI (F 52)), .int (zI (F 53)), .int (zI (F 54)), rz (F 55), rz (F 56), rz (F 57), .int (zI (F 58)), .int (zI (F 59)), .int (zI (F 60)), .int (zI (F 61)), rz (F 62), rz (F 63), rz (F 64), rz (F 65)]) := by
    rw [← rz_nat (a := a)]
    rfl
  exact (show px_pf (some (r11 F)) ps_okR 11 42 (.ref a) K = K (.inr (11, [rz (F 0), .int (zI (F 1)), rz (F 2), rz (F 3), rz (F 4), rz (F 5), rz (F 6), rz (F 7), rz (F 8), rz (F 9), rz (F 10), .int (zI (F 11)), .int (zI (F 12)), .int (zI (F 13)), .int (zI (F 14)), .int (zI (F 15)), .int (zI (F 16)), .int (zI (F 17)), .int (zI (F 18)), .int (zI (F 19)), .int (zI (F 20)), .int (zI (F 21)), .int (zI (F 22)), rz (F 23), rz (F 24), rz (F 25), rz (F 26), rz (F 27), rz (F 28), rz (F 29), rz (F 30), rz (F 31), rz (F 32), rz (F 33), rz (F 34), .int (zI (F 35)), .int (zI (F 36)), .int (zI (F 37)), .int (zI (F 38)), .int (zI (F 39)), .int (zI (F 40)), .int (zI (F 41)), .ref a, rz (F 43), .int (zI (F 44)), .int (zI (F 45)), .int (zI (F 46)), rz (F 47), rz (F 48), rz (F 49), rz (F 50), .int (zI (F 51)), .int (zI (F 52)), .int (zI (F 53)), .int (zI (F 54)), rz (F 55), rz (F 56), rz (F 57), .int (zI (F 58)), .int (zI (F 59)), .int (zI (F 60)), .int (zI (F 61)), rz (F 62), rz (F 63), rz (F 64), rz (F 65)])) from rfl).trans (congrArg K e.symm)
theorem rgf_11_43 {F : Nat → Int} {K : Value → Prop} : px_gf (some (r11 F)) 11 43 K = K (rz (F 43)) := rfl
theorem rpf_11_43 {F : Nat → Int} {a : Nat} {K : pm_E → Prop} : px_pf (some (r11 F)) ps_okR 11 43 (.ref a) K = K (r11 (upz F 43 a)) := by
  have e : r11 (upz F 43 a) = .inr (11, [rz (F 0), .int (zI (F 1)), rz (F 2), rz (F 3), rz (F 4), rz (F 5), rz (F 6), rz (F 7), rz (F 8), rz (F 9), rz (F 10), .int (zI (F 11)), .int (zI (F 12)), .int (zI (F 13)), .int (zI (F 14)), .int (zI (F 15)), .int (zI (F 16)), .int (zI (F 17)), .int (zI (F 18)), .int (zI (F 19)), .int (zI (F 20)), .int (zI (F 21)), .int (zI (F 22)), rz (F 23), rz (F 24), rz (F 25), rz (F 26), rz (F 27), rz (F 28), rz (F 29), rz (F 30), rz (F 31), rz (F 32), rz (F 33), rz (F 34), .int (zI (F 35)), .int (zI (F 36)), .int (zI (F 37)), .int (zI (F 38)), .int (zI (F 39)), .int (zI (F 40)), .int (zI (F 41)), rz (F 42), .ref a, .int (zI (F 44)), .int (zI (F 45)), .int (zI (F 46)), rz (F 47), rz (F 48), rz (F 49), rz (F 50), .int (zI (F 51)), .int (zI (F 52)), .int (zI (F 53)), .int (zI (F 54)), rz (F 55), rz (F 56), rz (F 57), .int (zI (F 58)), .int (zI (F 59)), .int (zI (F 60)), .int (zI (F 61)), rz (F 62), rz (F 63), rz (F 64), rz (F 65)]) := by
    rw [← rz_nat (a := a)]
    rfl
  exact (show px_pf (some (r11 F)) ps_okR 11 43 (.ref a) K = K (.inr (11, [rz (F 0), .int (zI (F 1)), rz (F 2), rz (F 3), rz (F 4), rz (F 5), rz (F 6), rz (F 7), rz (F 8), rz (F 9), rz (F 10), .int (zI (F 11)), .int (zI (F 12)), .int (zI (F 13)), .int (zI (F 14)), .int (zI (F 15)), .int (zI (F 16)), .int (zI (F 17)), .int (zI (F 18)), .int (zI (F 19)), .int (zI (F 20)), .int (zI (F 21)), .int (zI (F 22)), rz (F 23), rz (F 24), rz (F 25), rz (F 26), rz (F 27), rz (F 28), rz (F 29), rz (F 30), rz (F 31), rz (F 32), rz (F 33), rz (F 34), .int (zI (F 35)), .int (zI (F 36)), .int (zI (F 37)), .int (zI (F 38)), .int (zI (F 39)), .int (zI (F 40)), .int (zI (F 41)), rz (F 42), .ref a, .int (zI (F 44)), .int (zI (F 45)), .int (zI (F 46)), rz (F 47), rz (F 48), rz (F 49), rz (F 50), .int (zI (F 51)), .int (zI (F 52)), .int (zI (F 53)), .int (zI (F 54)), rz (F 55), rz (F 56), rz (F 57), .int (zI (F 58)), .int (zI (F 59)), .int (zI (F 60)), .int (zI (F 61)), rz (F 62), rz (F 63), rz (F 64), rz (F 65)])) from rfl).trans (congrArg K e.symm)
theorem rgf_11_44 {F : Nat → Int} {K : Value → Prop} : px_gf (some (r11 F)) 11 44 K = K (.int (zI (F 44))) := rfl
theorem rpf_11_44 {F : Nat → Int} {x : Int} {K : pm_E → Prop} : px_pf (some (r11 F)) ps_okI 11 44 (.int (zI x)) K = K (r11 (upz F 44 x)) := rfl
theorem rgf_11_45 {F : Nat → Int} {K : Value → Prop} : px_gf (some (r11 F)) 11 45 K = K (.int (zI (F 45))) := rfl
theorem rpf_11_45 {F : Nat → Int} {x : Int} {K : pm_E → Prop} : px_pf (some (r11 F)) ps_okI 11 45 (.int (zI x)) K = K (r11 (upz F 45 x)) := rfl
theorem rgf_11_46 {F : Nat → Int} {K : Value → Prop} : px_gf (some (r11 F)) 11 46 K = K (.int (zI (F 46))) := rfl
theorem rpf_11_46 {F : Nat → Int} {x : Int} {K : pm_E → Prop} : px_pf (some (r11 F)) ps_okI 11 46 (.int (zI x)) K = K (r11 (upz F 46 x)) := rfl
theorem rgf_11_47 {F : Nat → Int} {K : Value → Prop} : px_gf (some (r11 F)) 11 47 K = K (rz (F 47)) := rfl
theorem rpf_11_47 {F : Nat → Int} {a : Nat} {K : pm_E → Prop} : px_pf (some (r11 F)) ps_okR 11 47 (.ref a) K = K (r11 (upz F 47 a)) := by
  have e : r11 (upz F 47 a) = .inr (11, [rz (F 0), .int (zI (F 1)), rz (F 2), rz (F 3), rz (F 4), rz (F 5), rz (F 6), rz (F 7), rz (F 8), rz (F 9), rz (F 10), .int (zI (F 11)), .int (zI (F 12)), .int (zI (F 13)), .int (zI (F 14)), .int (zI (F 15)), .int (zI (F 16)), .int (zI (F 17)), .int (zI (F 18)), .int (zI (F 19)), .int (zI (F 20)), .int (zI (F 21)), .int (zI (F 22)), rz (F 23), rz (F 24), rz (F 25), rz (F 26), rz (F 27), rz (F 28), rz (F 29), rz (F 30), rz (F 31), rz (F 32), rz (F 33), rz (F 34), .int (zI (F 35)), .int (zI (F 36)), .int (zI (F 37)), .int (zI (F 38)), .int (zI (F 39)), .int (zI (F 40)), .int (zI (F 41)), rz (F 42), rz (F 43), .int (zI (F 44)), .int (zI (F 45)), .int (zI (F 46)), .ref a, rz (F 48), rz (F 49), rz (F 50), .int (zI (F 51)), .int (zI (F 52)), .int (zI (F 53)), .int (zI (F 54)), rz (F 55), rz (F 56), rz (F 57), .int (zI (F 58)), .int (zI (F 59)), .int (zI (F 60)), .int (zI (F 61)), rz (F 62), rz (F 63), rz (F 64), rz (F 65)]) := by
    rw [← rz_nat (a := a)]
    rfl
  exact (show px_pf (some (r11 F)) ps_okR 11 47 (.ref a) K = K (.inr (11, [rz (F 0), .int (zI (F 1)), rz (F 2), rz (F 3), rz (F 4), rz (F 5), rz (F 6), rz (F 7), rz (F 8), rz (F 9), rz (F 10), .int (zI (F 11)), .int (zI (F 12)), .int (zI (F 13)), .int (zI (F 14)), .int (zI (F 15)), .int (zI (F 16)), .int (zI (F 17)), .int (zI (F 18)), .int (zI (F 19)), .int (zI (F 20)), .int (zI (F 21)), .int (zI (F 22)), rz (F 23), rz (F 24), rz (F 25), rz (F 26), rz (F 27), rz (F 28), rz (F 29), rz (F 30), rz (F 31), rz (F 32), rz (F 33), rz (F 34), .int (zI (F 35)), .int (zI (F 36)), .int (zI (F 37)), .int (zI (F 38)), .int (zI (F 39)), .int (zI (F 40)), .int (zI (F 41)), rz (F 42), rz (F 43), .int (zI (F 44)), .int (zI (F 45)), .int (zI (F 46)), .ref a, rz (F 48), rz (F 49), rz (F 50), .int (zI (F 51)), .int (zI (F 52)), .int (zI (F 53)), .int (zI (F 54)), rz (F 55), rz (F 56), rz (F 57), .int (zI (F 58)), .int (zI (F 59)), .int (zI (F 60)), .int (zI (F 61)), rz (F 62), rz (F 63), rz (F 64), rz (F 65)])) from rfl).trans (congrArg K e.symm)
theorem rgf_11_48 {F : Nat → Int} {K : Value → Prop} : px_gf (some (r11 F)) 11 48 K = K (rz (F 48)) := rfl
theorem rpf_11_48 {F : Nat → Int} {a : Nat} {K : pm_E → Prop} : px_pf (some (r11 F)) ps_okR 11 48 (.ref a) K = K (r11 (upz F 48 a)) := by
  have e : r11 (upz F 48 a) = .inr (11, [rz (F 0), .int (zI (F 1)), rz (F 2), rz (F 3), rz (F 4), rz (F 5), rz (F 6), rz (F 7), rz (F 8), rz (F 9), rz (F 10), .int (zI (F 11)), .int (zI (F 12)), .int (zI (F 13)), .int (zI (F 14)), .int (zI (F 15)), .int (zI (F 16)), .int (zI (F 17)), .int (zI (F 18)), .int (zI (F 19)), .int (zI (F 20)), .int (zI (F 21)), .int (zI (F 22)), rz (F 23), rz (F 24), rz (F 25), rz (F 26), rz (F 27), rz (F 28), rz (F 29), rz (F 30), rz (F 31), rz (F 32), rz (F 33), rz (F 34), .int (zI (F 35)), .int (zI (F 36)), .int (zI (F 37)), .int (zI (F 38)), .int (zI (F 39)), .int (zI (F 40)), .int (zI (F 41)), rz (F 42), rz (F 43), .int (zI (F 44)), .int (zI (F 45)), .int (zI (F 46)), rz (F 47), .ref a, rz (F 49), rz (F 50), .int (zI (F 51)), .int (zI (F 52)), .int (zI (F 53)), .int (zI (F 54)), rz (F 55), rz (F 56), rz (F 57), .int (zI (F 58)), .int (zI (F 59)), .int (zI (F 60)), .int (zI (F 61)), rz (F 62), rz (F 63), rz (F 64), rz (F 65)]) := by
    rw [← rz_nat (a := a)]
    rfl
  exact (show px_pf (some (r11 F)) ps_okR 11 48 (.ref a) K = K (.inr (11, [rz (F 0), .int (zI (F 1)), rz (F 2), rz (F 3), rz (F 4), rz (F 5), rz (F 6), rz (F 7), rz (F 8), rz (F 9), rz (F 10), .int (zI (F 11)), .int (zI (F 12)), .int (zI (F 13)), .int (zI (F 14)), .int (zI (F 15)), .int (zI (F 16)), .int (zI (F 17)), .int (zI (F 18)), .int (zI (F 19)), .int (zI (F 20)), .int (zI (F 21)), .int (zI (F 22)), rz (F 23), rz (F 24), rz (F 25), rz (F 26), rz (F 27), rz (F 28), rz (F 29), rz (F 30), rz (F 31), rz (F 32), rz (F 33), rz (F 34), .int (zI (F 35)), .int (zI (F 36)), .int (zI (F 37)), .int (zI (F 38)), .int (zI (F 39)), .int (zI (F 40)), .int (zI (F 41)), rz (F 42), rz (F 43), .int (zI (F 44)), .int (zI (F 45)), .int (zI (F 46)), rz (F 47), .ref a, rz (F 49), rz (F 50), .int (zI (F 51)), .int (zI (F 52)), .int (zI (F 53)), .int (zI (F 54)), rz (F 55), rz (F 56), rz (F 57), .int (zI (F 58)), .int (zI (F 59)), .int (zI (F 60)), .int (zI (F 61)), rz (F 62), rz (F 63), rz (F 64), rz (F 65)])) from rfl).trans (congrArg K e.symm)
theorem rgf_11_49 {F : Nat → Int} {K : Value → Prop} : px_gf (some (r11 F)) 11 49 K = K (rz (F 49)) := rfl
theorem rpf_11_49 {F : Nat → Int} {a : Nat} {K : pm_E → Prop} : px_pf (some (r11 F)) ps_okR 11 49 (.ref a) K = K (r11 (upz F 49 a)) := by
  have e : r11 (upz F 49 a) = .inr (11, [rz (F 0), .int (zI (F 1)), rz (F 2), rz (F 3), rz (F 4), rz (F 5), rz (F 6), rz (F 7), rz (F 8), rz (F 9), rz (F 10), .int (zI (F 11)), .int (zI (F 12)), .int (zI (F 13)), .int (zI (F 14)), .int (zI (F 15)), .int (zI (F 16)), .int (zI (F 17)), .int (zI (F 18)), .int (zI (F 19)), .int (zI (F 20)), .int (zI (F 21)), .int (zI (F 22)), rz (F 23), rz (F 24), rz (F 25), rz (F 26), rz (F 27), rz (F 28), rz (F 29), rz (F 30), rz (F 31), rz (F 32), rz (F 33), rz (F 34), .int (zI (F 35)), .int (zI (F 36)), .int (zI (F 37)), .int (zI (F 38)), .int (zI (F 39)), .int (zI (F 40)), .int (zI (F 41)), rz (F 42), rz (F 43), .int (zI (F 44)), .int (zI (F 45)), .int (zI (F 46)), rz (F 47), rz (F 48), .ref a, rz (F 50), .int (zI (F 51)), .int (zI (F 52)), .int (zI (F 53)), .int (zI (F 54)), rz (F 55), rz (F 56), rz (F 57), .int (zI (F 58)), .int (zI (F 59)), .int (zI (F 60)), .int (zI (F 61)), rz (F 62), rz (F 63), rz (F 64), rz (F 65)]) := by
    rw [← rz_nat (a := a)]
    rfl
  exact (show px_pf (some (r11 F)) ps_okR 11 49 (.ref a) K = K (.inr (11, [rz (F 0), .int (zI (F 1)), rz (F 2), rz (F 3), rz (F 4), rz (F 5), rz (F 6), rz (F 7), rz (F 8), rz (F 9), rz (F 10), .int (zI (F 11)), .int (zI (F 12)), .int (zI (F 13)), .int (zI (F 14)), .int (zI (F 15)), .int (zI (F 16)), .int (zI (F 17)), .int (zI (F 18)), .int (zI (F 19)), .int (zI (F 20)), .int (zI (F 21)), .int (zI (F 22)), rz (F 23), rz (F 24), rz (F 25), rz (F 26), rz (F 27), rz (F 28), rz (F 29), rz (F 30), rz (F 31), rz (F 32), rz (F 33), rz (F 34), .int (zI (F 35)), .int (zI (F 36)), .int (zI (F 37)), .int (zI (F 38)), .int (zI (F 39)), .int (zI (F 40)), .int (zI (F 41)), rz (F 42), rz (F 43), .int (zI (F 44)), .int (zI (F 45)), .int (zI (F 46)), rz (F 47), rz (F 48), .ref a, rz (F 50), .int (zI (F 51)), .int (zI (F 52)), .int (zI (F 53)), .int (zI (F 54)), rz (F 55), rz (F 56), rz (F 57), .int (zI (F 58)), .int (zI (F 59)), .int (zI (F 60)), .int (zI (F 61)), rz (F 62), rz (F 63), rz (F 64), rz (F 65)])) from rfl).trans (congrArg K e.symm)
theorem rgf_11_50 {F : Nat → Int} {K : Value → Prop} : px_gf (some (r11 F)) 11 50 K = K (rz (F 50)) := rfl
theorem rpf_11_50 {F : Nat → Int} {a : Nat} {K : pm_E → Prop} : px_pf (some (r11 F)) ps_okR 11 50 (.ref a) K = K (r11 (upz F 50 a)) := by
  have e : r11 (upz F 50 a) = .inr (11, [rz (F 0), .int (zI (F 1)), rz (F 2), rz (F 3), rz (F 4), rz (F 5), rz (F 6), rz (F 7), rz (F 8), rz (F 9), rz (F 10), .int (zI (F 11)), .int (zI (F 12)), .int (zI (F 13)), .int (zI (F 14)), .int (zI (F 15)), .int (zI (F 16)), .int (zI (F 17)), .int (zI (F 18)), .int (zI (F 19)), .int (zI (F 20)), .int (zI (F 21)), .int (zI (F 22)), rz (F 23), rz (F 24), rz (F 25), rz (F 26), rz (F 27), rz (F 28), rz (F 29), rz (F 30), rz (F 31), rz (F 32), rz (F 33), rz (F 34), .int (zI (F 35)), .int (zI (F 36)), .int (zI (F 37)), .int (zI (F 38)), .int (zI (F 39)), .int (zI (F 40)), .int (zI (F 41)), rz (F 42), rz (F 43), .int (zI (F 44)), .int (zI (F 45)), .int (zI (F 46)), rz (F 47), rz (F 48), rz (F 49), .ref a, .int (zI (F 51)), .int (zI (F 52)), .int (zI (F 53)), .int (zI (F 54)), rz (F 55), rz (F 56), rz (F 57), .int (zI (F 58)), .int (zI (F 59)), .int (zI (F 60)), .int (zI (F 61)), rz (F 62), rz (F 63), rz (F 64), rz (F 65)]) := by
    rw [← rz_nat (a := a)]
    rfl
  exact (show px_pf (some (r11 F)) ps_okR 11 50 (.ref a) K = K (.inr (11, [rz (F 0), .int (zI (F 1)), rz (F 2), rz (F 3), rz (F 4), rz (F 5), rz (F 6), rz (F 7), rz (F 8), rz (F 9), rz (F 10), .int (zI (F 11)), .int (zI (F 12)), .int (zI (F 13)), .int (zI (F 14)), .int (zI (F 15)), .int (zI (F 16)), .int (zI (F 17)), .int (zI (F 18)), .int (zI (F 19)), .int (zI (F 20)), .int (zI (F 21)), .int (zI (F 22)), rz (F 23), rz (F 24), rz (F 25), rz (F 26), rz (F 27), rz (F 28), rz (F 29), rz (F 30), rz (F 31), rz (F 32), rz (F 33), rz (F 34), .int (zI (F 35)), .int (zI (F 36)), .int (zI (F 37)), .int (zI (F 38)), .int (zI (F 39)), .int (zI (F 40)), .int (zI (F 41)), rz (F 42), rz (F 43), .int (zI (F 44)), .int (zI (F 45)), .int (zI (F 46)), rz (F 47), rz (F 48), rz (F 49), .ref a, .int (zI (F 51)), .int (zI (F 52)), .int (zI (F 53)), .int (zI (F 54)), rz (F 55), rz (F 56), rz (F 57), .int (zI (F 58)), .int (zI (F 59)), .int (zI (F 60)), .int (zI (F 61)), rz (F 62), rz (F 63), rz (F 64), rz (F 65)])) from rfl).trans (congrArg K e.symm)
theorem rgf_11_51 {F : Nat → Int} {K : Value → Prop} : px_gf (some (r11 F)) 11 51 K = K (.int (zI (F 51))) := rfl
theorem rpf_11_51 {F : Nat → Int} {x : Int} {K : pm_E → Prop} : px_pf (some (r11 F)) ps_okI 11 51 (.int (zI x)) K = K (r11 (upz F 51 x)) := rfl
theorem rgf_11_52 {F : Nat → Int} {K : Value → Prop} : px_gf (some (r11 F)) 11 52 K = K (.int (zI (F 52))) := rfl
theorem rpf_11_52 {F : Nat → Int} {x : Int} {K : pm_E → Prop} : px_pf (some (r11 F)) ps_okI 11 52 (.int (zI x)) K = K (r11 (upz F 52 x)) := rfl
theorem rgf_11_53 {F : Nat → Int} {K : Value → Prop} : px_gf (some (r11 F)) 11 53 K = K (.int (zI (F 53))) := rfl
theorem rpf_11_53 {F : Nat → Int} {x : Int} {K : pm_E → Prop} : px_pf (some (r11 F)) ps_okI 11 53 (.int (zI x)) K = K (r11 (upz F 53 x)) := rfl
theorem rgf_11_54 {F : Nat → Int} {K : Value → Prop} : px_gf (some (r11 F)) 11 54 K = K (.int (zI (F 54))) := rfl
theorem rpf_11_54 {F : Nat → Int} {K : pm_E → Prop} : px_pf (some (r11 F)) ps_okZ 11 54 (.int (zI 0)) K = K (r11 (upz F 54 0)) := rfl
theorem rgf_11_55 {F : Nat → Int} {K : Value → Prop} : px_gf (some (r11 F)) 11 55 K = K (rz (F 55)) := rfl
theorem rpf_11_55 {F : Nat → Int} {a : Nat} {K : pm_E → Prop} : px_pf (some (r11 F)) ps_okR 11 55 (.ref a) K = K (r11 (upz F 55 a)) := by
  have e : r11 (upz F 55 a) = .inr (11, [rz (F 0), .int (zI (F 1)), rz (F 2), rz (F 3), rz (F 4), rz (F 5), rz (F 6), rz (F 7), rz (F 8), rz (F 9), rz (F 10), .int (zI (F 11)), .int (zI (F 12)), .int (zI (F 13)), .int (zI (F 14)), .int (zI (F 15)), .int (zI (F 16)), .int (zI (F 17)), .int (zI (F 18)), .int (zI (F 19)), .int (zI (F 20)), .int (zI (F 21)), .int (zI (F 22)), rz (F 23), rz (F 24), rz (F 25), rz (F 26), rz (F 27), rz (F 28), rz (F 29), rz (F 30), rz (F 31), rz (F 32), rz (F 33), rz (F 34), .int (zI (F 35)), .int (zI (F 36)), .int (zI (F 37)), .int (zI (F 38)), .int (zI (F 39)), .int (zI (F 40)), .int (zI (F 41)), rz (F 42), rz (F 43), .int (zI (F 44)), .int (zI (F 45)), .int (zI (F 46)), rz (F 47), rz (F 48), rz (F 49), rz (F 50), .int (zI (F 51)), .int (zI (F 52)), .int (zI (F 53)), .int (zI (F 54)), .ref a, rz (F 56), rz (F 57), .int (zI (F 58)), .int (zI (F 59)), .int (zI (F 60)), .int (zI (F 61)), rz (F 62), rz (F 63), rz (F 64), rz (F 65)]) := by
    rw [← rz_nat (a := a)]
    rfl
  exact (show px_pf (some (r11 F)) ps_okR 11 55 (.ref a) K = K (.inr (11, [rz (F 0), .int (zI (F 1)), rz (F 2), rz (F 3), rz (F 4), rz (F 5), rz (F 6), rz (F 7), rz (F 8), rz (F 9), rz (F 10), .int (zI (F 11)), .int (zI (F 12)), .int (zI (F 13)), .int (zI (F 14)), .int (zI (F 15)), .int (zI (F 16)), .int (zI (F 17)), .int (zI (F 18)), .int (zI (F 19)), .int (zI (F 20)), .int (zI (F 21)), .int (zI (F 22)), rz (F 23), rz (F 24), rz (F 25), rz (F 26), rz (F 27), rz (F 28), rz (F 29), rz (F 30), rz (F 31), rz (F 32), rz (F 33), rz (F 34), .int (zI (F 35)), .int (zI (F 36)), .int (zI (F 37)), .int (zI (F 38)), .int (zI (F 39)), .int (zI (F 40)), .int (zI (F 41)), rz (F 42), rz (F 43), .int (zI (F 44)), .int (zI (F 45)), .int (zI (F 46)), rz (F 47), rz (F 48), rz (F 49), rz (F 50), .int (zI (F 51)), .int (zI (F 52)), .int (zI (F 53)), .int (zI (F 54)), .ref a, rz (F 56), rz (F 57), .int (zI (F 58)), .int (zI (F 59)), .int (zI (F 60)), .int (zI (F 61)), rz (F 62), rz (F 63), rz (F 64), rz (F 65)])) from rfl).trans (congrArg K e.symm)
theorem rgf_11_56 {F : Nat → Int} {K : Value → Prop} : px_gf (some (r11 F)) 11 56 K = K (rz (F 56)) := rfl
theorem rpf_11_56 {F : Nat → Int} {a : Nat} {K : pm_E → Prop} : px_pf (some (r11 F)) ps_okR 11 56 (.ref a) K = K (r11 (upz F 56 a)) := by
  have e : r11 (upz F 56 a) = .inr (11, [rz (F 0), .int (zI (F 1)), rz (F 2), rz (F 3), rz (F 4), rz (F 5), rz (F 6), rz (F 7), rz (F 8), rz (F 9), rz (F 10), .int (zI (F 11)), .int (zI (F 12)), .int (zI (F 13)), .int (zI (F 14)), .int (zI (F 15)), .int (zI (F 16)), .int (zI (F 17)), .int (zI (F 18)), .int (zI (F 19)), .int (zI (F 20)), .int (zI (F 21)), .int (zI (F 22)), rz (F 23), rz (F 24), rz (F 25), rz (F 26), rz (F 27), rz (F 28), rz (F 29), rz (F 30), rz (F 31), rz (F 32), rz (F 33), rz (F 34), .int (zI (F 35)), .int (zI (F 36)), .int (zI (F 37)), .int (zI (F 38)), .int (zI (F 39)), .int (zI (F 40)), .int (zI (F 41)), rz (F 42), rz (F 43), .int (zI (F 44)), .int (zI (F 45)), .int (zI (F 46)), rz (F 47), rz (F 48), rz (F 49), rz (F 50), .int (zI (F 51)), .int (zI (F 52)), .int (zI (F 53)), .int (zI (F 54)), rz (F 55), .ref a, rz (F 57), .int (zI (F 58)), .int (zI (F 59)), .int (zI (F 60)), .int (zI (F 61)), rz (F 62), rz (F 63), rz (F 64), rz (F 65)]) := by
    rw [← rz_nat (a := a)]
    rfl
  exact (show px_pf (some (r11 F)) ps_okR 11 56 (.ref a) K = K (.inr (11, [rz (F 0), .int (zI (F 1)), rz (F 2), rz (F 3), rz (F 4), rz (F 5), rz (F 6), rz (F 7), rz (F 8), rz (F 9), rz (F 10), .int (zI (F 11)), .int (zI (F 12)), .int (zI (F 13)), .int (zI (F 14)), .int (zI (F 15)), .int (zI (F 16)), .int (zI (F 17)), .int (zI (F 18)), .int (zI (F 19)), .int (zI (F 20)), .int (zI (F 21)), .int (zI (F 22)), rz (F 23), rz (F 24), rz (F 25), rz (F 26), rz (F 27), rz (F 28), rz (F 29), rz (F 30), rz (F 31), rz (F 32), rz (F 33), rz (F 34), .int (zI (F 35)), .int (zI (F 36)), .int (zI (F 37)), .int (zI (F 38)), .int (zI (F 39)), .int (zI (F 40)), .int (zI (F 41)), rz (F 42), rz (F 43), .int (zI (F 44)), .int (zI (F 45)), .int (zI (F 46)), rz (F 47), rz (F 48), rz (F 49), rz (F 50), .int (zI (F 51)), .int (zI (F 52)), .int (zI (F 53)), .int (zI (F 54)), rz (F 55), .ref a, rz (F 57), .int (zI (F 58)), .int (zI (F 59)), .int (zI (F 60)), .int (zI (F 61)), rz (F 62), rz (F 63), rz (F 64), rz (F 65)])) from rfl).trans (congrArg K e.symm)
theorem rgf_11_57 {F : Nat → Int} {K : Value → Prop} : px_gf (some (r11 F)) 11 57 K = K (rz (F 57)) := rfl
theorem rpf_11_57 {F : Nat → Int} {a : Nat} {K : pm_E → Prop} : px_pf (some (r11 F)) ps_okR 11 57 (.ref a) K = K (r11 (upz F 57 a)) := by
  have e : r11 (upz F 57 a) = .inr (11, [rz (F 0), .int (zI (F 1)), rz (F 2), rz (F 3), rz (F 4), rz (F 5), rz (F 6), rz (F 7), rz (F 8), rz (F 9), rz (F 10), .int (zI (F 11)), .int (zI (F 12)), .int (zI (F 13)), .int (zI (F 14)), .int (zI (F 15)), .int (zI (F 16)), .int (zI (F 17)), .int (zI (F 18)), .int (zI (F 19)), .int (zI (F 20)), .int (zI (F 21)), .int (zI (F 22)), rz (F 23), rz (F 24), rz (F 25), rz (F 26), rz (F 27), rz (F 28), rz (F 29), rz (F 30), rz (F 31), rz (F 32), rz (F 33), rz (F 34), .int (zI (F 35)), .int (zI (F 36)), .int (zI (F 37)), .int (zI (F 38)), .int (zI (F 39)), .int (zI (F 40)), .int (zI (F 41)), rz (F 42), rz (F 43), .int (zI (F 44)), .int (zI (F 45)), .int (zI (F 46)), rz (F 47), rz (F 48), rz (F 49), rz (F 50), .int (zI (F 51)), .int (zI (F 52)), .int (zI (F 53)), .int (zI (F 54)), rz (F 55), rz (F 56), .ref a, .int (zI (F 58)), .int (zI (F 59)), .int (zI (F 60)), .int (zI (F 61)), rz (F 62), rz (F 63), rz (F 64), rz (F 65)]) := by
    rw [← rz_nat (a := a)]
    rfl
  exact (show px_pf (some (r11 F)) ps_okR 11 57 (.ref a) K = K (.inr (11, [rz (F 0), .int (zI (F 1)), rz (F 2), rz (F 3), rz (F 4), rz (F 5), rz (F 6), rz (F 7), rz (F 8), rz (F 9), rz (F 10), .int (zI (F 11)), .int (zI (F 12)), .int (zI (F 13)), .int (zI (F 14)), .int (zI (F 15)), .int (zI (F 16)), .int (zI (F 17)), .int (zI (F 18)), .int (zI (F 19)), .int (zI (F 20)), .int (zI (F 21)), .int (zI (F 22)), rz (F 23), rz (F 24), rz (F 25), rz (F 26), rz (F 27), rz (F 28), rz (F 29), rz (F 30), rz (F 31), rz (F 32), rz (F 33), rz (F 34), .int (zI (F 35)), .int (zI (F 36)), .int (zI (F 37)), .int (zI (F 38)), .int (zI (F 39)), .int (zI (F 40)), .int (zI (F 41)), rz (F 42), rz (F 43), .int (zI (F 44)), .int (zI (F 45)), .int (zI (F 46)), rz (F 47), rz (F 48), rz (F 49), rz (F 50), .int (zI (F 51)), .int (zI (F 52)), .int (zI (F 53)), .int (zI (F 54)), rz (F 55), rz (F 56), .ref a, .int (zI (F 58)), .int (zI (F 59)), .int (zI (F 60)), .int (zI (F 61)), rz (F 62), rz (F 63), rz (F 64), rz (F 65)])) from rfl).trans (congrArg K e.symm)
theorem rgf_11_58 {F : Nat → Int} {K : Value → Prop} : px_gf (some (r11 F)) 11 58 K = K (.int (zI (F 58))) := rfl
theorem rpf_11_58 {F : Nat → Int} {x : Int} {K : pm_E → Prop} : px_pf (some (r11 F)) ps_okI 11 58 (.int (zI x)) K = K (r11 (upz F 58 x)) := rfl
theorem rgf_11_59 {F : Nat → Int} {K : Value → Prop} : px_gf (some (r11 F)) 11 59 K = K (.int (zI (F 59))) := rfl
theorem rpf_11_59 {F : Nat → Int} {K : pm_E → Prop} : px_pf (some (r11 F)) ps_okZ 11 59 (.int (zI 0)) K = K (r11 (upz F 59 0)) := rfl
theorem rgf_11_60 {F : Nat → Int} {K : Value → Prop} : px_gf (some (r11 F)) 11 60 K = K (.int (zI (F 60))) := rfl
theorem rpf_11_60 {F : Nat → Int} {x : Int} {K : pm_E → Prop} : px_pf (some (r11 F)) ps_okI 11 60 (.int (zI x)) K = K (r11 (upz F 60 x)) := rfl
theorem rgf_11_61 {F : Nat → Int} {K : Value → Prop} : px_gf (some (r11 F)) 11 61 K = K (.int (zI (F 61))) := rfl
theorem rpf_11_61 {F : Nat → Int} {x : Int} {K : pm_E → Prop} : px_pf (some (r11 F)) ps_okI 11 61 (.int (zI x)) K = K (r11 (upz F 61 x)) := rfl
theorem rgf_11_62 {F : Nat → Int} {K : Value → Prop} : px_gf (some (r11 F)) 11 62 K = K (rz (F 62)) := rfl
theorem rpf_11_62 {F : Nat → Int} {a : Nat} {K : pm_E → Prop} : px_pf (some (r11 F)) ps_okR 11 62 (.ref a) K = K (r11 (upz F 62 a)) := by
  have e : r11 (upz F 62 a) = .inr (11, [rz (F 0), .int (zI (F 1)), rz (F 2), rz (F 3), rz (F 4), rz (F 5), rz (F 6), rz (F 7), rz (F 8), rz (F 9), rz (F 10), .int (zI (F 11)), .int (zI (F 12)), .int (zI (F 13)), .int (zI (F 14)), .int (zI (F 15)), .int (zI (F 16)), .int (zI (F 17)), .int (zI (F 18)), .int (zI (F 19)), .int (zI (F 20)), .int (zI (F 21)), .int (zI (F 22)), rz (F 23), rz (F 24), rz (F 25), rz (F 26), rz (F 27), rz (F 28), rz (F 29), rz (F 30), rz (F 31), rz (F 32), rz (F 33), rz (F 34), .int (zI (F 35)), .int (zI (F 36)), .int (zI (F 37)), .int (zI (F 38)), .int (zI (F 39)), .int (zI (F 40)), .int (zI (F 41)), rz (F 42), rz (F 43), .int (zI (F 44)), .int (zI (F 45)), .int (zI (F 46)), rz (F 47), rz (F 48), rz (F 49), rz (F 50), .int (zI (F 51)), .int (zI (F 52)), .int (zI (F 53)), .int (zI (F 54)), rz (F 55), rz (F 56), rz (F 57), .int (zI (F 58)), .int (zI (F 59)), .int (zI (F 60)), .int (zI (F 61)), .ref a, rz (F 63), rz (F 64), rz (F 65)]) := by
    rw [← rz_nat (a := a)]
    rfl
  exact (show px_pf (some (r11 F)) ps_okR 11 62 (.ref a) K = K (.inr (11, [rz (F 0), .int (zI (F 1)), rz (F 2), rz (F 3), rz (F 4), rz (F 5), rz (F 6), rz (F 7), rz (F 8), rz (F 9), rz (F 10), .int (zI (F 11)), .int (zI (F 12)), .int (zI (F 13)), .int (zI (F 14)), .int (zI (F 15)), .int (zI (F 16)), .int (zI (F 17)), .int (zI (F 18)), .int (zI (F 19)), .int (zI (F 20)), .int (zI (F 21)), .int (zI (F 22)), rz (F 23), rz (F 24), rz (F 25), rz (F 26), rz (F 27), rz (F 28), rz (F 29), rz (F 30), rz (F 31), rz (F 32), rz (F 33), rz (F 34), .int (zI (F 35)), .int (zI (F 36)), .int (zI (F 37)), .int (zI (F 38)), .int (zI (F 39)), .int (zI (F 40)), .int (zI (F 41)), rz (F 42), rz (F 43), .int (zI (F 44)), .int (zI (F 45)), .int (zI (F 46)), rz (F 47), rz (F 48), rz (F 49), rz (F 50), .int (zI (F 51)), .int (zI (F 52)), .int (zI (F 53)), .int (zI (F 54)), rz (F 55), rz (F 56), rz (F 57), .int (zI (F 58)), .int (zI (F 59)), .int (zI (F 60)), .int (zI (F 61)), .ref a, rz (F 63), rz (F 64), rz (F 65)])) from rfl).trans (congrArg K e.symm)
theorem rgf_11_63 {F : Nat → Int} {K : Value → Prop} : px_gf (some (r11 F)) 11 63 K = K (rz (F 63)) := rfl
theorem rpf_11_63 {F : Nat → Int} {a : Nat} {K : pm_E → Prop} : px_pf (some (r11 F)) ps_okR 11 63 (.ref a) K = K (r11 (upz F 63 a)) := by
  have e : r11 (upz F 63 a) = .inr (11, [rz (F 0), .int (zI (F 1)), rz (F 2), rz (F 3), rz (F 4), rz (F 5), rz (F 6), rz (F 7), rz (F 8), rz (F 9), rz (F 10), .int (zI (F 11)), .int (zI (F 12)), .int (zI (F 13)), .int (zI (F 14)), .int (zI (F 15)), .int (zI (F 16)), .int (zI (F 17)), .int (zI (F 18)), .int (zI (F 19)), .int (zI (F 20)), .int (zI (F 21)), .int (zI (F 22)), rz (F 23), rz (F 24), rz (F 25), rz (F 26), rz (F 27), rz (F 28), rz (F 29), rz (F 30), rz (F 31), rz (F 32), rz (F 33), rz (F 34), .int (zI (F 35)), .int (zI (F 36)), .int (zI (F 37)), .int (zI (F 38)), .int (zI (F 39)), .int (zI (F 40)), .int (zI (F 41)), rz (F 42), rz (F 43), .int (zI (F 44)), .int (zI (F 45)), .int (zI (F 46)), rz (F 47), rz (F 48), rz (F 49), rz (F 50), .int (zI (F 51)), .int (zI (F 52)), .int (zI (F 53)), .int (zI (F 54)), rz (F 55), rz (F 56), rz (F 57), .int (zI (F 58)), .int (zI (F 59)), .int (zI (F 60)), .int (zI (F 61)), rz (F 62), .ref a, rz (F 64), rz (F 65)]) := by
    rw [← rz_nat (a := a)]
    rfl
  exact (show px_pf (some (r11 F)) ps_okR 11 63 (.ref a) K = K (.inr (11, [rz (F 0), .int (zI (F 1)), rz (F 2), rz (F 3), rz (F 4), rz (F 5), rz (F 6), rz (F 7), rz (F 8), rz (F 9), rz (F 10), .int (zI (F 11)), .int (zI (F 12)), .int (zI (F 13)), .int (zI (F 14)), .int (zI (F 15)), .int (zI (F 16)), .int (zI (F 17)), .int (zI (F 18)), .int (zI (F 19)), .int (zI (F 20)), .int (zI (F 21)), .int (zI (F 22)), rz (F 23), rz (F 24), rz (F 25), rz (F 26), rz (F 27), rz (F 28), rz (F 29), rz (F 30), rz (F 31), rz (F 32), rz (F 33), rz (F 34), .int (zI (F 35)), .int (zI (F 36)), .int (zI (F 37)), .int (zI (F 38)), .int (zI (F 39)), .int (zI (F 40)), .int (zI (F 41)), rz (F 42), rz (F 43), .int (zI (F 44)), .int (zI (F 45)), .int (zI (F 46)), rz (F 47), rz (F 48), rz (F 49), rz (F 50), .int (zI (F 51)), .int (zI (F 52)), .int (zI (F 53)), .int (zI (F 54)), rz (F 55), rz (F 56), rz (F 57), .int (zI (F 58)), .int (zI (F 59)), .int (zI (F 60)), .int (zI (F 61)), rz (F 62), .ref a, rz (F 64), rz (F 65)])) from rfl).trans (congrArg K e.symm)
theorem rgf_11_64 {F : Nat → Int} {K : Value → Prop} : px_gf (some (r11 F)) 11 64 K = K (rz (F 64)) := rfl
theorem rpf_11_64 {F : Nat → Int} {a : Nat} {K : pm_E → Prop} : px_pf (some (r11 F)) ps_okR 11 64 (.ref a) K = K (r11 (upz F 64 a)) := by
  have e : r11 (upz F 64 a) = .inr (11, [rz (F 0), .int (zI (F 1)), rz (F 2), rz (F 3), rz (F 4), rz (F 5), rz (F 6), rz (F 7), rz (F 8), rz (F 9), rz (F 10), .int (zI (F 11)), .int (zI (F 12)), .int (zI (F 13)), .int (zI (F 14)), .int (zI (F 15)), .int (zI (F 16)), .int (zI (F 17)), .int (zI (F 18)), .int (zI (F 19)), .int (zI (F 20)), .int (zI (F 21)), .int (zI (F 22)), rz (F 23), rz (F 24), rz (F 25), rz (F 26), rz (F 27), rz (F 28), rz (F 29), rz (F 30), rz (F 31), rz (F 32), rz (F 33), rz (F 34), .int (zI (F 35)), .int (zI (F 36)), .int (zI (F 37)), .int (zI (F 38)), .int (zI (F 39)), .int (zI (F 40)), .int (zI (F 41)), rz (F 42), rz (F 43), .int (zI (F 44)), .int (zI (F 45)), .int (zI (F 46)), rz (F 47), rz (F 48), rz (F 49), rz (F 50), .int (zI (F 51)), .int (zI (F 52)), .int (zI (F 53)), .int (zI (F 54)), rz (F 55), rz (F 56), rz (F 57), .int (zI (F 58)), .int (zI (F 59)), .int (zI (F 60)), .int (zI (F 61)), rz (F 62), rz (F 63), .ref a, rz (F 65)]) := by
    rw [← rz_nat (a := a)]
    rfl
  exact (show px_pf (some (r11 F)) ps_okR 11 64 (.ref a) K = K (.inr (11, [rz (F 0), .int (zI (F 1)), rz (F 2), rz (F 3), rz (F 4), rz (F 5), rz (F 6), rz (F 7), rz (F 8), rz (F 9), rz (F 10), .int (zI (F 11)), .int (zI (F 12)), .int (zI (F 13)), .int (zI (F 14)), .int (zI (F 15)), .int (zI (F 16)), .int (zI (F 17)), .int (zI (F 18)), .int (zI (F 19)), .int (zI (F 20)), .int (zI (F 21)), .int (zI (F 22)), rz (F 23), rz (F 24), rz (F 25), rz (F 26), rz (F 27), rz (F 28), rz (F 29), rz (F 30), rz (F 31), rz (F 32), rz (F 33), rz (F 34), .int (zI (F 35)), .int (zI (F 36)), .int (zI (F 37)), .int (zI (F 38)), .int (zI (F 39)), .int (zI (F 40)), .int (zI (F 41)), rz (F 42), rz (F 43), .int (zI (F 44)), .int (zI (F 45)), .int (zI (F 46)), rz (F 47), rz (F 48), rz (F 49), rz (F 50), .int (zI (F 51)), .int (zI (F 52)), .int (zI (F 53)), .int (zI (F 54)), rz (F 55), rz (F 56), rz (F 57), .int (zI (F 58)), .int (zI (F 59)), .int (zI (F 60)), .int (zI (F 61)), rz (F 62), rz (F 63), .ref a, rz (F 65)])) from rfl).trans (congrArg K e.symm)
theorem rgf_11_65 {F : Nat → Int} {K : Value → Prop} : px_gf (some (r11 F)) 11 65 K = K (rz (F 65)) := rfl
theorem rpf_11_65 {F : Nat → Int} {a : Nat} {K : pm_E → Prop} : px_pf (some (r11 F)) ps_okR 11 65 (.ref a) K = K (r11 (upz F 65 a)) := by
  have e : r11 (upz F 65 a) = .inr (11, [rz (F 0), .int (zI (F 1)), rz (F 2), rz (F 3), rz (F 4), rz (F 5), rz (F 6), rz (F 7), rz (F 8), rz (F 9), rz (F 10), .int (zI (F 11)), .int (zI (F 12)), .int (zI (F 13)), .int (zI (F 14)), .int (zI (F 15)), .int (zI (F 16)), .int (zI (F 17)), .int (zI (F 18)), .int (zI (F 19)), .int (zI (F 20)), .int (zI (F 21)), .int (zI (F 22)), rz (F 23), rz (F 24), rz (F 25), rz (F 26), rz (F 27), rz (F 28), rz (F 29), rz (F 30), rz (F 31), rz (F 32), rz (F 33), rz (F 34), .int (zI (F 35)), .int (zI (F 36)), .int (zI (F 37)), .int (zI (F 38)), .int (zI (F 39)), .int (zI (F 40)), .int (zI (F 41)), rz (F 42), rz (F 43), .int (zI (F 44)), .int (zI (F 45)), .int (zI (F 46)), rz (F 47), rz (F 48), rz (F 49), rz (F 50), .int (zI (F 51)), .int (zI (F 52)), .int (zI (F 53)), .int (zI (F 54)), rz (F 55), rz (F 56), rz (F 57), .int (zI (F 58)), .int (zI (F 59)), .int (zI (F 60)), .int (zI (F 61)), rz (F 62), rz (F 63), rz (F 64), .ref a]) := by
    rw [← rz_nat (a := a)]
    rfl
  exact (show px_pf (some (r11 F)) ps_okR 11 65 (.ref a) K = K (.inr (11, [rz (F 0), .int (zI (F 1)), rz (F 2), rz (F 3), rz (F 4), rz (F 5), rz (F 6), rz (F 7), rz (F 8), rz (F 9), rz (F 10), .int (zI (F 11)), .int (zI (F 12)), .int (zI (F 13)), .int (zI (F 14)), .int (zI (F 15)), .int (zI (F 16)), .int (zI (F 17)), .int (zI (F 18)), .int (zI (F 19)), .int (zI (F 20)), .int (zI (F 21)), .int (zI (F 22)), rz (F 23), rz (F 24), rz (F 25), rz (F 26), rz (F 27), rz (F 28), rz (F 29), rz (F 30), rz (F 31), rz (F 32), rz (F 33), rz (F 34), .int (zI (F 35)), .int (zI (F 36)), .int (zI (F 37)), .int (zI (F 38)), .int (zI (F 39)), .int (zI (F 40)), .int (zI (F 41)), rz (F 42), rz (F 43), .int (zI (F 44)), .int (zI (F 45)), .int (zI (F 46)), rz (F 47), rz (F 48), rz (F 49), rz (F 50), .int (zI (F 51)), .int (zI (F 52)), .int (zI (F 53)), .int (zI (F 54)), rz (F 55), rz (F 56), rz (F 57), .int (zI (F 58)), .int (zI (F 59)), .int (zI (F 60)), .int (zI (F 61)), rz (F 62), rz (F 63), rz (F 64), .ref a])) from rfl).trans (congrArg K e.symm)
theorem zf_11 {T : Nat → Nat × Nat} {S : Nat → Nat → Int} {c : pm_M × pm_C} {q n : Nat} (h : T q = (51, n)) (h0 : S q 0 = ((q + 1 : Nat) : Int)) (h2 : S q 2 = ((q + 2 : Nat) : Int)) (h3 : S q 3 = ((q + 3 : Nat) : Int)) (h4 : S q 4 = ((q + 4 : Nat) : Int)) (h5 : S q 5 = ((q + 5 : Nat) : Int)) (h6 : S q 6 = ((q + 6 : Nat) : Int)) (h7 : S q 7 = ((q + 7 : Nat) : Int)) (h8 : S q 8 = ((q + 8 : Nat) : Int)) (h9 : S q 9 = ((q + 9 : Nat) : Int)) (h10 : S q 10 = ((q + 10 : Nat) : Int)) (h23 : S q 23 = ((q + 11 : Nat) : Int)) (h24 : S q 24 = ((q + 12 : Nat) : Int)) (h25 : S q 25 = ((q + 13 : Nat) : Int)) (h26 : S q 26 = ((q + 14 : Nat) : Int)) (h27 : S q 27 = ((q + 15 : Nat) : Int)) (h28 : S q 28 = ((q + 16 : Nat) : Int)) (h29 : S q 29 = ((q + 17 : Nat) : Int)) (h30 : S q 30 = ((q + 18 : Nat) : Int)) (h31 : S q 31 = ((q + 19 : Nat) : Int)) (h32 : S q 32 = ((q + 20 : Nat) : Int)) (h33 : S q 33 = ((q + 21 : Nat) : Int)) (h34 : S q 34 = ((q + 22 : Nat) : Int)) (h42 : S q 42 = ((q + 23 : Nat) : Int)) (h43 : S q 43 = ((q + 24 : Nat) : Int)) (h47 : S q 47 = ((q + 25 : Nat) : Int)) (h48 : S q 48 = ((q + 26 : Nat) : Int)) (h49 : S q 49 = ((q + 27 : Nat) : Int)) (h50 : S q 50 = ((q + 28 : Nat) : Int)) (h55 : S q 55 = ((q + 29 : Nat) : Int)) (h56 : S q 56 = ((q + 30 : Nat) : Int)) (h57 : S q 57 = ((q + 31 : Nat) : Int)) (h62 : S q 62 = ((q + 32 : Nat) : Int)) (h63 : S q 63 = ((q + 33 : Nat) : Int)) (h64 : S q 64 = ((q + 34 : Nat) : Int)) (h65 : S q 65 = ((q + 35 : Nat) : Int)) : zh T S c = zh (upC T q (12, 0)) S c := by
  unfold zh
  congr 1
  funext b
  by_cases hb : b = q
  · subst hb
    rw [upC_eq, h]
    change some (r11 (S b)) = some (o11 b (S b))
    unfold r11 o11
    simp only [rz_nat, h0, h2, h3, h4, h5, h6, h7, h8, h9, h10, h23, h24, h25, h26, h27, h28, h29, h30, h31, h32, h33, h34, h42, h43, h47, h48, h49, h50, h55, h56, h57, h62, h63, h64, h65]
  · rw [upC_ne hb]
