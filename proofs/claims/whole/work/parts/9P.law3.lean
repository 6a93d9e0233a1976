/-! THE LAW, 3: what holds between two calls -/
theorem zI_self {v : Int} : zI (zI v).toInt = zI v := by
  unfold zI
  exact Int32.ofInt_toInt _
theorem cR.keep {T : Nat → Nat × Nat} {S S' : Nat → Nat → Int} {x sA sB : Nat} {k : Int} {F : fS} (h : cR T S x sA sB k F) (e : ∀ a, x ≤ a → a < x + 148 → S' a = S a) : cR T S' x sA sB k F := h.eq (fun a h1 h2 _ _ _ _ _ => e a h1 h2) ⟨by rw [e _ (by omega) (by omega)], by rw [e _ (by omega) (by omega)]⟩
theorem mR.keep {T : Nat → Nat × Nat} {S S' : Nat → Nat → Int} {m : Nat} {k : Int} {F : fS} (h : mR T S m F) (hf : fI k F) (e : ∀ a, m ≤ a → a < m + 36 → S' a = S a) : mR T S' m F := h.same hf ⟨fun j _ => by rw [e m (by omega) (by omega)], fun a j hj => by
  have := mLim_in hj
  rw [e (m + a) (by omega) (by omega)]⟩
/-- class and Model stand alike -/
def lwI (T : Nat → Nat × Nat) (S : Nat → Nat → Int) (c : pm_M × pm_C) (x m a : Nat) (k : Int) : Prop := ∃ (F : fS) (sA sB : Nat), cR T S x sA sB k F ∧ mR T S m F ∧ (∀ j, j < 4 → S (m + 1) j = (c.2.2.1 j : Nat)) ∧ T a = (23, 1) ∧ x + 148 ≤ m ∧ m + 36 ≤ a
section LAW
variable {T : Nat → Nat × Nat} {S : Nat → Nat → Int} {c : pm_M × pm_C} {x m a : Nat} {k : Int}
theorem br_fault {l0 l3 l4 l5 l6 : Value} (h : lwI T S c x m a k) : ∃ S', (∀ Q, px_Ev 12 224 1492 [l0, .ref x, .ref m, l3, l4, l5, l6] [] (zh T S' c) Q → px_Ev 12 224 329 [l0, .ref x, .ref m, l3, l4, l5, l6] [] (zh T S c) Q) ∧ lwI T S' c x m a k := by
  obtain ⟨F, sA, sB, hc, hm, hs, ha, d1, d2⟩ := h
  have hf := hc.fI
  obtain ⟨r, S1, F1, sA1, sB1, r1, f1, c1, rfl, rfl⟩ := o_fault (c := c) hc
  have hm1 : mR T S1 m F1 := hm.keep hf (fun b h1 h2 => f1 b (by omega))
  have hf1 := c1.fI
  obtain ⟨v, S2, r2, f2, m2, rfl, -⟩ := fault_m (c := c) (kc := kc1) hm1 hf1
  refine ⟨S2, fun Q hQ => ?_, F1, sA1, sB1, c1.keep (fun b h1 h2 => f2 b (by omega)), m2, fun j hj => by rw [f2 _ (by omega), f1 _ (by omega)]; exact hs j hj, ha, d1, d2⟩
  have tx : T x = (11, 0) := hc.1.1.1
  have tm : T m = (12, 0) := hm.1.1
  have hr1 := Int32.le_toInt (zI F1.2.2.1.2.2)
  have hr2 := Int32.toInt_lt (zI F1.2.2.1.2.2)
  rw [el_L_law_329, el_L_law_330 r1 (by decide) (zo_11 tx) rfl]
  rw [el_L_law_333, el_L_law_334 r2 (by decide) (zo_12 tm) rfl]
  show px_Ev _ _ _ _ (.int (zI F1.2.2.1.2.2) :: .int (zI F1.2.2.1.2.2) :: []) _ Q
  rw [← zI_self, el_L_law_337 ⟨by omega, by omega⟩, if_pos rfl]
  exact hQ
end LAW
