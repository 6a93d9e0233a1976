/-! THE LAW, 3: what holds between two calls -/
theorem zI_self {v : Int} : zI (zI v).toInt = zI v := by
  unfold zI
  exact Int32.ofInt_toInt _
theorem sc_w (v : Int32) : ∃ w, rg w ∧ v = zI w := ⟨v.toInt, ⟨Int32.le_toInt v, by have := Int32.toInt_lt v; omega⟩, (zI_of v).symm⟩
theorem sc_q (v : Int) : ∃ w, rg w ∧ zI v = zI w := sc_w (zI v)
theorem sc_b (w : Int) : ∃ b : Int, (b = 0 ∨ b = 1) ∧ (if w = 0 then (0 : Int) else 1) = b := by
  by_cases h : w = 0
  · exact ⟨0, Or.inl rfl, if_pos h⟩
  · exact ⟨1, Or.inr rfl, if_neg h⟩
theorem tl_some {v : Value} {l : List Value} : (some v).toList ++ l = v :: l := rfl
theorem tl_none {l : List Value} : (none : Option Value).toList ++ l = l := rfl
theorem lg_cmp_self {x : Int64} : lg_cmp x x = zI 0 := by
  unfold lg_cmp
  rw [if_neg (by rw [gt_iff_lt, Int64.lt_iff_toInt_lt]; omega), if_pos rfl]
  rfl
theorem kc1_r {E : String} : 1 ≤ kc1 E ∧ kc1 E ≤ 2 := by unfold kc1; decide
theorem kc2_r {E : String} : 1 ≤ kc2 E ∧ kc2 E ≤ 2 := by unfold kc2; split <;> decide
theorem ld_a {T : Nat → Nat × Nat} {S : Nat → Nat → Int} {c : pm_M × pm_C} {a : Nat} {w : Int} (ha : T a = (23, 1)) (hv : S a 0 = (zI w).toInt) : ∃ f : Nat → Int64, (zh T S c).1 a = some (.inl (3, 1, .inr (.inl f))) ∧ f 0 = (zI w).toInt64 := ⟨fun j => Int64.ofInt (S a j), by rw [zh_1, ha]; rfl, by show Int64.ofInt (S a 0) = _; rw [hv, i64_of]⟩
theorem rsE_E {o : Option Int} {E : String} (h : rsE o = .inr E) : E = nse := by
  cases o with
  | some v => cases h
  | none => exact (Sum.inr.inj h).symm
theorem flightM_E {F : fS} {a b d e : Int} {E : String} (h : flightM F a b d e = .inr E) : E = nse ∨ E = iae := by
  unfold flightM at h
  split at h
  · exact Or.inl (Sum.inr.inj h).symm
  · split at h
    · exact Or.inr (Sum.inr.inj h).symm
    · cases h
theorem stepM_E {F : fS} {a b d e f : Int} {E : String} (h : stepM F a b d e f = .inr E) : E = nse ∨ E = iae := by
  unfold stepM at h
  split at h
  · exact Or.inl (Sum.inr.inj h).symm
  · split at h
    · exact Or.inr (Sum.inr.inj h).symm
    · split at h
      · exact Or.inl (Sum.inr.inj h).symm
      · cases h
theorem meanM_E {F : fS} {a b : Int} {E : String} (h : meanM F a b = .inr E) : E = nse ∨ E = iae := by
  unfold meanM at h
  split at h
  · exact Or.inl (Sum.inr.inj h).symm
  · split at h
    · exact Or.inr (Sum.inr.inj h).symm
    · split at h
      · cases h
      · split at h
        · cases h
        · cases h
theorem rowP_E {F F' : fS} {n k : Int} {E : String} (h : rowP F n k (.inr E) F') : E = iae := by
  rcases h with ⟨-, h, -⟩ | ⟨-, G, A0, B0, -, ⟨-, h, -⟩ | ⟨-, h, -⟩⟩
  · exact Sum.inr.inj h
  · cases h
  · cases h
theorem schP_E {F F' : fS} {n : Int} {E : String} (h : schP F n (.inr E) F') : E = iae := by
  rcases h with ⟨-, h, -⟩ | ⟨-, G, A0, B0, -, ⟨-, h, -⟩ | ⟨-, h, -⟩⟩
  · exact Sum.inr.inj h
  · cases h
  · cases h
theorem cR.keep {T : Nat → Nat × Nat} {S S' : Nat → Nat → Int} {x sA sB : Nat} {k : Int} {F : fS} (h : cR T S x sA sB k F) (e : ∀ a, x ≤ a → a < x + 148 → S' a = S a) : cR T S' x sA sB k F := h.eq (fun a h1 h2 _ _ _ _ _ => e a h1 h2) ⟨by rw [e _ (by omega) (by omega)], by rw [e _ (by omega) (by omega)]⟩
theorem mR.keep {T : Nat → Nat × Nat} {S S' : Nat → Nat → Int} {m : Nat} {k : Int} {F : fS} (h : mR T S m F) (hf : fI k F) (e : ∀ a, m ≤ a → a < m + 36 → S' a = S a) : mR T S' m F := h.same hf ⟨fun j _ => by rw [e m (by omega) (by omega)], fun a j hj => by
  have := mLim_in hj
  rw [e (m + a) (by omega) (by omega)]⟩
/-- class and Model stand alike -/
def lwI (T : Nat → Nat × Nat) (S : Nat → Nat → Int) (C : pm_C) (x m a : Nat) (k : Int) : Prop := ∃ (F : fS) (sA sB : Nat), cR T S x sA sB k F ∧ mR T S m F ∧ (∀ j, j < 4 → S (m + 1) j = (C.2.1 j : Nat)) ∧ T a = (23, 1) ∧ x + 148 ≤ m ∧ m + 36 ≤ a
/-- a branch of the switch goes through -/
def lwB (T : Nat → Nat × Nat) (S : Nat → Nat → Int) (c : pm_M × pm_C) (s x m a : Nat) (k i : Int) (l5 l6 : Value) (pc : Nat) : Prop := ∃ (S' : Nat → Nat → Int) (c' : pm_M × pm_C) (k' : Int) (l5' l6' : Value), (∀ Q, px_Ev 13 224 1492 [.ref s, .ref x, .ref m, .ref a, .int (zI i), l5', l6'] [] (zh T S' c') Q → px_Ev 13 224 pc [.ref s, .ref x, .ref m, .ref a, .int (zI i), l5, l6] [] (zh T S c) Q) ∧ lwI T S' c.2 x m a k' ∧ k' ≤ k + 1 ∧ (c' = c ∨ c' = thc c)
theorem bz_646 {d : Nat} {w : Int} {l0 l1 l2 l3 l4 l5 l6 : Value} {st : List Value} {h : pm_H} {Q : pm_O → pm_H → Prop} (hw : rg w) : px_Ev d 224 646 [l0, l1, l2, l3, l4, l5, l6] (.int (zI w) :: st) h Q = px_Ev d 224 654 [l0, l1, l2, l3, l4, l5, l6] (.int (zI (if w = 0 then 0 else 1)) :: st) h Q := by
  rw [el_L_law_646 hw]
  by_cases z : w = 0
  · rw [if_pos z, if_pos z, el_L_law_653]
  · rw [if_neg z, if_neg z, el_L_law_649, el_L_law_650]
theorem bz_679 {d : Nat} {w : Int} {l0 l1 l2 l3 l4 l5 l6 : Value} {st : List Value} {h : pm_H} {Q : pm_O → pm_H → Prop} (hw : rg w) : px_Ev d 224 679 [l0, l1, l2, l3, l4, l5, l6] (.int (zI w) :: st) h Q = px_Ev d 224 687 [l0, l1, l2, l3, l4, l5, l6] (.int (zI (if w = 0 then 0 else 1)) :: st) h Q := by
  rw [el_L_law_679 hw]
  by_cases z : w = 0
  · rw [if_pos z, if_pos z, el_L_law_686]
  · rw [if_neg z, if_neg z, el_L_law_682, el_L_law_683]
theorem bz_742 {d : Nat} {w : Int} {l0 l1 l2 l3 l4 l5 l6 : Value} {st : List Value} {h : pm_H} {Q : pm_O → pm_H → Prop} (hw : rg w) : px_Ev d 224 742 [l0, l1, l2, l3, l4, l5, l6] (.int (zI w) :: st) h Q = px_Ev d 224 750 [l0, l1, l2, l3, l4, l5, l6] (.int (zI (if w = 0 then 0 else 1)) :: st) h Q := by
  rw [el_L_law_742 hw]
  by_cases z : w = 0
  · rw [if_pos z, if_pos z, el_L_law_749]
  · rw [if_neg z, if_neg z, el_L_law_745, el_L_law_746]
theorem bz_781 {d : Nat} {w : Int} {l0 l1 l2 l3 l4 l5 l6 : Value} {st : List Value} {h : pm_H} {Q : pm_O → pm_H → Prop} (hw : rg w) : px_Ev d 224 781 [l0, l1, l2, l3, l4, l5, l6] (.int (zI w) :: st) h Q = px_Ev d 224 789 [l0, l1, l2, l3, l4, l5, l6] (.int (zI (if w = 0 then 0 else 1)) :: st) h Q := by
  rw [el_L_law_781 hw]
  by_cases z : w = 0
  · rw [if_pos z, if_pos z, el_L_law_788]
  · rw [if_neg z, if_neg z, el_L_law_784, el_L_law_785]
theorem bz_850 {d : Nat} {w : Int} {l0 l1 l2 l3 l4 l5 l6 : Value} {st : List Value} {h : pm_H} {Q : pm_O → pm_H → Prop} (hw : rg w) : px_Ev d 224 850 [l0, l1, l2, l3, l4, l5, l6] (.int (zI w) :: st) h Q = px_Ev d 224 858 [l0, l1, l2, l3, l4, l5, l6] (.int (zI (if w = 0 then 0 else 1)) :: st) h Q := by
  rw [el_L_law_850 hw]
  by_cases z : w = 0
  · rw [if_pos z, if_pos z, el_L_law_857]
  · rw [if_neg z, if_neg z, el_L_law_853, el_L_law_854]
theorem bz_895 {d : Nat} {w : Int} {l0 l1 l2 l3 l4 l5 l6 : Value} {st : List Value} {h : pm_H} {Q : pm_O → pm_H → Prop} (hw : rg w) : px_Ev d 224 895 [l0, l1, l2, l3, l4, l5, l6] (.int (zI w) :: st) h Q = px_Ev d 224 903 [l0, l1, l2, l3, l4, l5, l6] (.int (zI (if w = 0 then 0 else 1)) :: st) h Q := by
  rw [el_L_law_895 hw]
  by_cases z : w = 0
  · rw [if_pos z, if_pos z, el_L_law_902]
  · rw [if_neg z, if_neg z, el_L_law_898, el_L_law_899]
theorem bz_1168 {d : Nat} {w : Int} {l0 l1 l2 l3 l4 l5 l6 : Value} {st : List Value} {h : pm_H} {Q : pm_O → pm_H → Prop} (hw : rg w) : px_Ev d 224 1168 [l0, l1, l2, l3, l4, l5, l6] (.int (zI w) :: st) h Q = px_Ev d 224 1176 [l0, l1, l2, l3, l4, l5, l6] (.int (zI (if w = 0 then 0 else 1)) :: st) h Q := by
  rw [el_L_law_1168 hw]
  by_cases z : w = 0
  · rw [if_pos z, if_pos z, el_L_law_1175]
  · rw [if_neg z, if_neg z, el_L_law_1171, el_L_law_1172]
theorem bz_1195 {d : Nat} {w : Int} {l0 l1 l2 l3 l4 l5 l6 : Value} {st : List Value} {h : pm_H} {Q : pm_O → pm_H → Prop} (hw : rg w) : px_Ev d 224 1195 [l0, l1, l2, l3, l4, l5, l6] (.int (zI w) :: st) h Q = px_Ev d 224 1203 [l0, l1, l2, l3, l4, l5, l6] (.int (zI (if w = 0 then 0 else 1)) :: st) h Q := by
  rw [el_L_law_1195 hw]
  by_cases z : w = 0
  · rw [if_pos z, if_pos z, el_L_law_1202]
  · rw [if_neg z, if_neg z, el_L_law_1198, el_L_law_1199]
section LAW
variable {T : Nat → Nat × Nat} {S : Nat → Nat → Int} {c : pm_M × pm_C} {s x m a : Nat} {k i : Int} {l5 l6 : Value}
theorem br_feed (h : lwI T S c.2 x m a k) (hk : k + 1 ≤ 50000) (hC : tcx c.2) (hs : s = c.2.1.1) (hb : ∀ j : Int, 0 ≤ j ∧ j ≤ 5 → 0 ≤ i + j ∧ i + j < c.2.1.2.1 ∧ i + j ≤ 2147483647) : lwB T S c s x m a k i l5 l6 144 := by
  obtain ⟨F, sA, sB, hc, hm, hsd, ha, d1, d2⟩ := h
  have hf := hc.fI
  have tx : T x = (11, 0) := hc.1.1.1
  have tm : T m = (12, 0) := hm.1.1
  obtain ⟨r, S1, F1, sA1, sB1, r1, f1, c1, p1⟩ := o_feed (c := c) (v1 := c.2.1.2.2 (i + 1).toNat) (v2 := c.2.1.2.2 (i + 2).toNat) (v3 := c.2.1.2.2 (i + 3).toNat) (v4 := c.2.1.2.2 (i + 4).toNat) (v5 := c.2.1.2.2 (i + 5).toNat) hc
  have hm1 : mR T S1 m F := hm.keep hf (fun b h1 h2 => f1 b (by omega))
  have hs1 : ∀ j, j < 4 → S1 (m + 1) j = (c.2.2.1 j : Nat) := fun j hj => by rw [f1 _ (by omega)]; exact hsd j hj
  have key : ∃ w, r = .inl w ∧ mopR 0 137 [.ref m, .int (c.2.1.2.2 (i + 1).toNat), .int (c.2.1.2.2 (i + 2).toNat), .int (c.2.1.2.2 (i + 3).toNat), .int (c.2.1.2.2 (i + 4).toNat), .int (c.2.1.2.2 (i + 5).toNat), .retAddr 0, .retAddr 0] T S1 c m kc1 r F1 := by
    rcases p1 with ⟨q, e, e'⟩ | ⟨q, e, e'⟩
    · refine ⟨_, e, ?_⟩
      have := feed_m (c := c) (kc := kc1) (v1 := c.2.1.2.2 (i + 1).toNat) (v2 := c.2.1.2.2 (i + 2).toNat) (v3 := c.2.1.2.2 (i + 3).toNat) (v4 := c.2.1.2.2 (i + 4).toNat) (v5 := c.2.1.2.2 (i + 5).toNat) hm1 hf
      rw [if_pos q, if_pos q] at this
      rw [e, e']
      exact this
    · refine ⟨_, e, ?_⟩
      have := feed_m (c := c) (kc := kc1) (v1 := c.2.1.2.2 (i + 1).toNat) (v2 := c.2.1.2.2 (i + 2).toNat) (v3 := c.2.1.2.2 (i + 3).toNat) (v4 := c.2.1.2.2 (i + 4).toNat) (v5 := c.2.1.2.2 (i + 5).toNat) hm1 hf
      rw [if_neg (by omega), if_neg (by omega)] at this
      rw [e, e']
      exact this
  obtain ⟨w0, rfl, v, S2, r2, f2, m2, z1, -⟩ := key
  rw [z1] at r2
  obtain ⟨w, g, ew⟩ := sc_q w0
  dsimp only at r1
  rw [ew] at r1 r2
  refine ⟨S2, c, k, l5, l6, fun Q hQ => ?_, ⟨F1, sA1, sB1, c1.keep (fun b h1 h2 => f2 b (by omega)), m2, fun j hj => by rw [f2 _ (by omega)]; exact hs1 j hj, ha, d1, d2⟩, by omega, Or.inl rfl⟩
  rw [el_L_law_144, el_L_law_145, el_L_law_146, el_L_law_148, el_L_law_149, el_L_law_150 (h := zh T S c) hs (hb 1 (by decide)), zh_cst, el_L_law_151, el_L_law_152, el_L_law_154, el_L_law_155, el_L_law_156 (h := zh T S c) hs (hb 2 (by decide)), zh_cst, el_L_law_157, el_L_law_158, el_L_law_160, el_L_law_161, el_L_law_162 (h := zh T S c) hs (hb 3 (by decide)), zh_cst, el_L_law_163, el_L_law_164, el_L_law_166, el_L_law_167, el_L_law_168 (h := zh T S c) hs (hb 4 (by decide)), zh_cst, el_L_law_169, el_L_law_170, el_L_law_172, el_L_law_173, el_L_law_174 (h := zh T S c) hs (hb 5 (by decide)), zh_cst, el_L_law_175 r1 (by decide) (zo_11 tx) rfl, tl_some, el_L_law_178, el_L_law_179, el_L_law_180, el_L_law_182, el_L_law_183, el_L_law_184 (h := zh T S1 c) hs (hb 1 (by decide)), zh_cst, el_L_law_185, el_L_law_186, el_L_law_188, el_L_law_189, el_L_law_190 (h := zh T S1 c) hs (hb 2 (by decide)), zh_cst, el_L_law_191, el_L_law_192, el_L_law_194, el_L_law_195, el_L_law_196 (h := zh T S1 c) hs (hb 3 (by decide)), zh_cst, el_L_law_197, el_L_law_198, el_L_law_200, el_L_law_201, el_L_law_202 (h := zh T S1 c) hs (hb 4 (by decide)), zh_cst, el_L_law_203, el_L_law_204, el_L_law_206, el_L_law_207, el_L_law_208 (h := zh T S1 c) hs (hb 5 (by decide)), zh_cst, el_L_law_209 r2 (by decide) (zo_12 tm) rfl, tl_some, el_L_law_212 ⟨g, g⟩, if_pos rfl]
  exact hQ
theorem br_fault (h : lwI T S c.2 x m a k) (hk : k + 1 ≤ 50000) (hC : tcx c.2) (hs : s = c.2.1.1) (hb : ∀ j : Int, 0 ≤ j ∧ j ≤ 5 → 0 ≤ i + j ∧ i + j < c.2.1.2.1 ∧ i + j ≤ 2147483647) : lwB T S c s x m a k i l5 l6 329 := by
  obtain ⟨F, sA, sB, hc, hm, hsd, ha, d1, d2⟩ := h
  have hf := hc.fI
  have tx : T x = (11, 0) := hc.1.1.1
  have tm : T m = (12, 0) := hm.1.1
  obtain ⟨r, S1, F1, sA1, sB1, r1, f1, c1, p1⟩ := o_fault (c := c) hc
  have hm1 : mR T S1 m F := hm.keep hf (fun b h1 h2 => f1 b (by omega))
  have hs1 : ∀ j, j < 4 → S1 (m + 1) j = (c.2.2.1 j : Nat) := fun j hj => by rw [f1 _ (by omega)]; exact hsd j hj
  have key : ∃ w, r = .inl w ∧ mopR 0 163 [.ref m] T S1 c m kc1 r F1 := by
    refine ⟨_, p1.1, ?_⟩
    rw [p1.1, p1.2]
    exact fault_m hm1 hf
  obtain ⟨w0, rfl, v, S2, r2, f2, m2, z1, -⟩ := key
  rw [z1] at r2
  obtain ⟨w, g, ew⟩ := sc_q w0
  dsimp only at r1
  rw [ew] at r1 r2
  refine ⟨S2, c, k, l5, l6, fun Q hQ => ?_, ⟨F1, sA1, sB1, c1.keep (fun b h1 h2 => f2 b (by omega)), m2, fun j hj => by rw [f2 _ (by omega)]; exact hs1 j hj, ha, d1, d2⟩, by omega, Or.inl rfl⟩
  rw [el_L_law_329, el_L_law_330 r1 (by decide) (zo_11 tx) rfl, tl_some, el_L_law_333, el_L_law_334 r2 (by decide) (zo_12 tm) rfl, tl_some, el_L_law_337 ⟨g, g⟩, if_pos rfl]
  exact hQ
theorem br_undo (h : lwI T S c.2 x m a k) (hk : k + 1 ≤ 50000) (hC : tcx c.2) (hs : s = c.2.1.1) (hb : ∀ j : Int, 0 ≤ j ∧ j ≤ 5 → 0 ≤ i + j ∧ i + j < c.2.1.2.1 ∧ i + j ≤ 2147483647) : lwB T S c s x m a k i l5 l6 534 := by
  obtain ⟨F, sA, sB, hc, hm, hsd, ha, d1, d2⟩ := h
  have hf := hc.fI
  have tx : T x = (11, 0) := hc.1.1.1
  have tm : T m = (12, 0) := hm.1.1
  obtain ⟨r, S1, F1, sA1, sB1, r1, f1, c1, p1⟩ := o_undo (c := c) hc
  have hm1 : mR T S1 m F := hm.keep hf (fun b h1 h2 => f1 b (by omega))
  have hs1 : ∀ j, j < 4 → S1 (m + 1) j = (c.2.2.1 j : Nat) := fun j hj => by rw [f1 _ (by omega)]; exact hsd j hj
  have key : ∃ w, r = .inl w ∧ mopR 3 172 [.ref m, .retAddr 0] T S1 c m kc1 r F1 := by
    have := undo_m (c := c) (kc := kc1) hm1 hf
    rcases p1 with ⟨q, e, e'⟩ | ⟨q, e, e'⟩
    · refine ⟨_, e, ?_⟩
      rw [if_pos q, if_pos q] at this
      rw [e, e']
      exact this
    · refine ⟨_, e, ?_⟩
      rw [if_neg q, if_neg q] at this
      rw [e, e']
      exact this
  obtain ⟨w0, rfl, v, S2, r2, f2, m2, z1, -⟩ := key
  rw [z1] at r2
  obtain ⟨w, g, ew⟩ := sc_q w0
  dsimp only at r1
  rw [ew] at r1 r2
  refine ⟨S2, c, k, l5, l6, fun Q hQ => ?_, ⟨F1, sA1, sB1, c1.keep (fun b h1 h2 => f2 b (by omega)), m2, fun j hj => by rw [f2 _ (by omega)]; exact hs1 j hj, ha, d1, d2⟩, by omega, Or.inl rfl⟩
  rw [el_L_law_534, el_L_law_535 r1 (by decide) (zo_11 tx) rfl, tl_some, el_L_law_538, el_L_law_539 r2 (by decide) (zo_12 tm) rfl, tl_some, el_L_law_542 ⟨g, g⟩, if_pos rfl]
  exact hQ
theorem br_teach (h : lwI T S c.2 x m a k) (hk : k + 1 ≤ 50000) (hC : tcx c.2) (hs : s = c.2.1.1) (hb : ∀ j : Int, 0 ≤ j ∧ j ≤ 5 → 0 ≤ i + j ∧ i + j < c.2.1.2.1 ∧ i + j ≤ 2147483647) : lwB T S c s x m a k i l5 l6 1351 := by
  obtain ⟨F, sA, sB, hc, hm, hsd, ha, d1, d2⟩ := h
  have hf := hc.fI
  have tx : T x = (11, 0) := hc.1.1.1
  have tm : T m = (12, 0) := hm.1.1
  obtain ⟨w1, g1, e1⟩ := sc_w (c.2.1.2.2 (i + 1).toNat)
  have e1t : (thc c).2.1.2.2 (i + 1).toNat = zI w1 := e1
  obtain ⟨w2, g2, e2⟩ := sc_w (c.2.1.2.2 (i + 2).toNat)
  have e2t : (thc c).2.1.2.2 (i + 2).toNat = zI w2 := e2
  obtain ⟨w3, g3, e3⟩ := sc_w (c.2.1.2.2 (i + 3).toNat)
  have e3t : (thc c).2.1.2.2 (i + 3).toNat = zI w3 := e3
  obtain ⟨w4, g4, e4⟩ := sc_w (c.2.1.2.2 (i + 4).toNat)
  have e4t : (thc c).2.1.2.2 (i + 4).toNat = zI w4 := e4
  obtain ⟨r, S1, F1, sA1, sB1, r1, f1, c1, p1⟩ := o_teach (c := c) hc hk g1 g2 g3 g4
  have hm1 : mR T S1 m F := hm.keep hf (fun b h1 h2 => f1 b (by omega))
  have hs1 : ∀ j, j < 4 → S1 (m + 1) j = (c.2.2.1 j : Nat) := fun j hj => by rw [f1 _ (by omega)]; exact hsd j hj
  have key : ∃ w, r = .inl w ∧ mopR 1 200 [.ref m, .int (zI w1), .int (zI w2), .int (zI w3), .int (zI w4), .retAddr 0, .retAddr 0, .retAddr 0, .retAddr 0, .retAddr 0] T S1 c m kc1 r F1 := by
    have e0 : ∃ w, r = .inl w := by
      rcases p1 with ⟨q, e, e'⟩ | ⟨q, e, e'⟩
      · exact ⟨_, e⟩
      · exact ⟨_, e⟩
    obtain ⟨w, e⟩ := e0
    exact ⟨w, e, teach_m hm1 hf g1 g2 g3 g4 r F1 p1⟩
  obtain ⟨w0, rfl, v, S2, r2, f2, m2, z1, -⟩ := key
  rw [z1] at r2
  obtain ⟨w, g, ew⟩ := sc_q w0
  dsimp only at r1
  rw [ew] at r1 r2
  refine ⟨S2, c, k + 1, l5, l6, fun Q hQ => ?_, ⟨F1, sA1, sB1, c1.keep (fun b h1 h2 => f2 b (by omega)), m2, fun j hj => by rw [f2 _ (by omega)]; exact hs1 j hj, ha, d1, d2⟩, by omega, Or.inl rfl⟩
  rw [el_L_law_1351, el_L_law_1352, el_L_law_1353, el_L_law_1355, el_L_law_1356, el_L_law_1357 (h := zh T S c) hs (hb 1 (by decide)), zh_cst, e1, el_L_law_1358, el_L_law_1359, el_L_law_1361, el_L_law_1362, el_L_law_1363 (h := zh T S c) hs (hb 2 (by decide)), zh_cst, e2, el_L_law_1364, el_L_law_1365, el_L_law_1367, el_L_law_1368, el_L_law_1369 (h := zh T S c) hs (hb 3 (by decide)), zh_cst, e3, el_L_law_1370, el_L_law_1371, el_L_law_1373, el_L_law_1374, el_L_law_1375 (h := zh T S c) hs (hb 4 (by decide)), zh_cst, e4, el_L_law_1376 r1 (by decide) (zo_11 tx) rfl, tl_some, el_L_law_1379, el_L_law_1380, el_L_law_1381, el_L_law_1383, el_L_law_1384, el_L_law_1385 (h := zh T S1 c) hs (hb 1 (by decide)), zh_cst, e1, el_L_law_1386, el_L_law_1387, el_L_law_1389, el_L_law_1390, el_L_law_1391 (h := zh T S1 c) hs (hb 2 (by decide)), zh_cst, e2, el_L_law_1392, el_L_law_1393, el_L_law_1395, el_L_law_1396, el_L_law_1397 (h := zh T S1 c) hs (hb 3 (by decide)), zh_cst, e3, el_L_law_1398, el_L_law_1399, el_L_law_1401, el_L_law_1402, el_L_law_1403 (h := zh T S1 c) hs (hb 4 (by decide)), zh_cst, e4, el_L_law_1404 r2 (by decide) (zo_12 tm) rfl, tl_some, el_L_law_1407 ⟨g, g⟩, if_pos rfl]
  exact hQ
theorem br_restore (h : lwI T S c.2 x m a k) (hk : k + 1 ≤ 50000) (hC : tcx c.2) (hs : s = c.2.1.1) (hb : ∀ j : Int, 0 ≤ j ∧ j ≤ 5 → 0 ≤ i + j ∧ i + j < c.2.1.2.1 ∧ i + j ≤ 2147483647) : lwB T S c s x m a k i l5 l6 1479 := by
  obtain ⟨F, sA, sB, hc, hm, hsd, ha, d1, d2⟩ := h
  have hf := hc.fI
  have tx : T x = (11, 0) := hc.1.1.1
  have tm : T m = (12, 0) := hm.1.1
  obtain ⟨r, S1, F1, sA1, sB1, r1, f1, c1, p1⟩ := o_restore (c := c) hc
  have hm1 : mR T S1 m F := hm.keep hf (fun b h1 h2 => f1 b (by omega))
  have hs1 : ∀ j, j < 4 → S1 (m + 1) j = (c.2.2.1 j : Nat) := fun j hj => by rw [f1 _ (by omega)]; exact hsd j hj
  have key : ∃ w, r = .inl w ∧ mopR 3 207 [.ref m, .retAddr 0] T S1 c m kc1 r F1 := by
    rcases p1 with ⟨q, e, e'⟩ | ⟨J, q, e, e'⟩
    · refine ⟨_, e, ?_⟩
      rw [e, e']
      exact (restore_m hm1 hf).1 q
    · refine ⟨_, e, ?_⟩
      rw [e, e']
      exact (restore_m hm1 hf).2 J q
  obtain ⟨w0, rfl, v, S2, r2, f2, m2, z1, -⟩ := key
  rw [z1] at r2
  obtain ⟨w, g, ew⟩ := sc_q w0
  dsimp only at r1
  rw [ew] at r1 r2
  refine ⟨S2, c, k, l5, l6, fun Q hQ => ?_, ⟨F1, sA1, sB1, c1.keep (fun b h1 h2 => f2 b (by omega)), m2, fun j hj => by rw [f2 _ (by omega)]; exact hs1 j hj, ha, d1, d2⟩, by omega, Or.inl rfl⟩
  rw [el_L_law_1479, el_L_law_1480 r1 (by decide) (zo_11 tx) rfl, tl_some, el_L_law_1483, el_L_law_1484 r2 (by decide) (zo_12 tm) rfl, tl_some, el_L_law_1487 ⟨g, g⟩, if_pos rfl]
  exact hQ
theorem br_image (h : lwI T S c.2 x m a k) (hk : k + 1 ≤ 50000) (hC : tcx c.2) (hs : s = c.2.1.1) (hb : ∀ j : Int, 0 ≤ j ∧ j ≤ 5 → 0 ≤ i + j ∧ i + j < c.2.1.2.1 ∧ i + j ≤ 2147483647) : lwB T S c s x m a k i l5 l6 1468 := by
  obtain ⟨F, sA, sB, hc, hm, hsd, ha, d1, d2⟩ := h
  have hf := hc.fI
  have tx : T x = (11, 0) := hc.1.1.1
  have tm : T m = (12, 0) := hm.1.1
  obtain ⟨S1, r1, f1, c1⟩ := o_image (c := c) hc
  have hm1 : mR T S1 m F := hm.keep hf (fun b h1 h2 => f1 b (by omega))
  obtain ⟨S2, r2, f2, m2⟩ := image_m (c := c) hm1 hf
  refine ⟨S2, c, k, l5, l6, fun Q hQ => ?_, ⟨_, sA, sB, c1.keep (fun b h1 h2 => f2 b (by omega)), m2, fun j hj => by rw [f2 _ (by omega), f1 _ (by omega)]; exact hsd j hj, ha, d1, d2⟩, by omega, Or.inl rfl⟩
  rw [el_L_law_1468, el_L_law_1469 r1 (by decide) (zo_11 tx) rfl, tl_none, el_L_law_1472, el_L_law_1473 r2 (by decide) (zo_12 tm) rfl, tl_none, el_L_law_1476]
  exact hQ
end LAW
