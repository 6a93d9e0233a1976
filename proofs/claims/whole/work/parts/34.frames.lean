/-! A SHEET, 12: what the heaps of the contracts hold, and what they leave -/
theorem cpH_sh {h : pm_H} {q : Nat} {F : Nat → Int} {B : Nat → Nat → Int} (hs : sh h q F B) (G : Nat → Int) (C : Nat → Nat → Int) :
    sh (cpH h q F G B C 7) q (cpF F G) (upB (upB (upB (upB (upB (upB (upB B 1 (cpz (C 1) (B 1) 0 0 64)) 2 (cpz (C 2) (B 2) 0 0 64)) 3 (cpz (C 3) (B 3) 0 0 64)) 4 (cpz (C 4) (B 4) 0 0 64)) 5 (cpz (C 5) (B 5) 0 0 64)) 6 (cpz (C 6) (B 6) 0 0 64)) 7 (cpz (C 7) (B 7) 0 0 64)) :=
  (((((((hs.put0 (cpF F G)).put 1 _ (by decide)).put 2 _ (by decide)).put 3 _ (by decide)).put 4 _ (by decide)).put 5 _ (by decide)).put 6 _ (by decide)).put 7 _ (by decide)
theorem lpE_sh {h : pm_H} {q n W H : Nat} {F : Nat → Int} {B : Nat → Nat → Int} (hs : sh h q F B) :
    sh (lpE h q n W H F B) q (lpF F W H) (upB (upB (upB (upB (upB (upB (upB B 2 (lpX W (B 2) n)) 3 (lpY W (B 3) n)) 4 (zro (B 4))) 1 (zro (B 1))) 5 (zro (B 5))) 6 (zro (B 6))) 7 (wgt (zro (B 7)) (lpX W (B 2) n) (lpY W (B 3) n) n)) :=
  (((((lp_sh hs _ _ _).put 4 _ (by decide)).put 1 _ (by decide)).put 5 _ (by decide)).put 6 _ (by decide)).put 7 _ (by decide)
theorem lpE_out {h : pm_H} {q n W H a : Nat} {F : Nat → Int} {B : Nat → Nat → Int} (ha : a < q ∨ q + 9 ≤ a) : (lpE h q n W H F B).1 a = h.1 a := by
  unfold lpE lpH
  simp (disch := omega) only [pm_put_ne]
theorem crH_out {h : pm_H} {q a : Nat} {R D : Nat → Int} (ha : a < q ∨ q + 9 ≤ a) : (crH h q R D).1 a = h.1 a := by
  unfold crH
  simp (disch := omega) only [pm_put_ne]
theorem tcH_out {h : pm_H} {q a : Nat} {b x y l : Nat → Int} (ha : a < q ∨ q + 9 ≤ a) : (tcH h q b x y l).1 a = h.1 a := by
  unfold tcH
  simp (disch := omega) only [pm_put_ne]
theorem cpH_2 {h : pm_H} {q : Nat} {F G : Nat → Int} {B C : Nat → Nat → Int} : ∀ k, (cpH h q F G B C k).2 = h.2
  | 0 => rfl
  | k + 1 => cpH_2 k
theorem lpE_2 {h : pm_H} {q n W H : Nat} {F : Nat → Int} {B : Nat → Nat → Int} : (lpE h q n W H F B).2 = h.2 := rfl
