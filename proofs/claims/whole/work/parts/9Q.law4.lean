/-! THE LAW, 4: branches with a helper -/
section LAW
variable {T : Nat → Nat × Nat} {S : Nat → Nat → Int} {c : pm_M × pm_C} {s x m a : Nat} {k i : Int} {l5 l6 : Value}
theorem br_school (h : lwI T S c.2 x m a k) (hk : k + 1 ≤ 50000) (hC : tcx c.2) (hs : s = c.2.1.1) (hb : ∀ j : Int, 0 ≤ j ∧ j ≤ 5 → 0 ≤ i + j ∧ i + j < c.2.1.2.1 ∧ i + j ≤ 2147483647) : lwB T S c s x m a k i l5 l6 217 := by
  obtain ⟨F, sA, sB, hc, hm, hsd, ha, d1, d2⟩ := h
  have hf := hc.fI
  have tx : T x = (11, 0) := hc.1.1.1
  have tm : T m = (12, 0) := hm.1.1
  obtain ⟨w1, g1, e1⟩ := sc_w (c.2.1.2.2 (i + 1).toNat)
  have e1t : (thc c).2.1.2.2 (i + 1).toNat = zI w1 := e1
  obtain ⟨r, S1, F1, sA1, sB1, r1, f1, v1, c1, p1⟩ := lw_school (o_school (c := c) hc hC hk g1) ha tx (Or.inr (by omega)) (fun E F' hp => schP_E hp)
  have hm1 : mR T S1 m F := hm.keep hf (fun b h1 h2 => f1 b (by omega) (by omega))
  have hs1 : ∀ j, j < 4 → S1 (m + 1) j = (c.2.2.1 j : Nat) := fun j hj => by rw [f1 _ (by omega) (by omega)]; exact hsd j hj
  have key : ∀ c2 : pm_M × pm_C, c2.2 = c.2 → mopR 8 159 [.ref m, .int (zI w1), .retAddr 0] T S1 c2 m kc1 r F1 := fun c2 hc2 => by
    exact school_m (c := c2) hm1 hf rfl g1 (by rw [hc2]; exact hC) (by rw [hc2]; exact hs1) p1
  cases r with
  | inl w =>
    dsimp only at r1 v1
    obtain ⟨v, S2, r2, f2, m2, z1, z2⟩ := key c rfl
    rw [z1] at r2
    obtain ⟨f, hf1, hf2⟩ := ld_a (c := c) (S := S2) ha (by rw [f2 a (by omega)]; exact v1)
    refine ⟨S2, c, k + 1, .int (zI 0), .int (zI w), fun Q hQ => ?_, ⟨F1, sA1, sB1, c1.keep (fun b h1 h2 => f2 b (by omega)), m2, fun j hj => by rw [f2 _ (by omega)]; exact hs1 j hj, ha, d1, d2⟩, by omega, Or.inl rfl⟩
    rw [el_L_law_217, el_L_law_218, el_L_law_219, el_L_law_221, el_L_law_222, el_L_law_223 (h := zh T S c) hs (hb 1 (by decide)), zh_cst, e1, el_L_law_224, el_L_law_225 r1 (by decide) rfl, tl_some, el_L_law_228, el_L_law_230, el_L_law_231, el_L_law_232, el_L_law_234, el_L_law_235, el_L_law_236 (h := zh T S1 c) hs (hb 1 (by decide)), zh_cst, e1, el_L_law_237 r2 (by decide) (zo_12 tm) rfl, tl_some, el_L_law_240, el_L_law_242, el_L_law_243 (m_thrown tm) (by decide) (zo_12 tm) rfl, tl_some, z2, el_L_law_246, el_L_law_248 ⟨by decide, by decide⟩, if_pos rfl, el_L_law_253, el_L_law_255 (by decide), if_neg (by decide), el_L_law_258, el_L_law_259, el_L_law_260 hf1 (by decide), show (0 : Int).toNat = 0 from rfl, hf2, el_L_law_261, el_L_law_263, el_L_law_264, lg_cmp_self, el_L_law_265 (by decide), if_pos rfl, el_L_law_270]
    exact hQ
  | inr E =>
    dsimp only at r1
    obtain ⟨v, S2, r2, f2, m2, z2⟩ := key (thc c) rfl
    have z2 : S2 m 1 = kc1 E := z2
    have hkr := kc1_r (E := E)
    refine ⟨S2, thc c, k + 1, .int (zI (kc1 E)), .int (zI v), fun Q hQ => ?_, ⟨F1, sA1, sB1, c1.keep (fun b h1 h2 => f2 b (by omega)), m2, fun j hj => by rw [f2 _ (by omega)]; exact hs1 j hj, ha, d1, d2⟩, by omega, Or.inr rfl⟩
    rw [el_L_law_217, el_L_law_218, el_L_law_219, el_L_law_221, el_L_law_222, el_L_law_223 (h := zh T S c) hs (hb 1 (by decide)), zh_cst, e1, el_L_law_224, el_L_law_225 r1 (by decide) rfl, tl_some, el_L_law_228, el_L_law_230, el_L_law_231, el_L_law_232, el_L_law_234, el_L_law_235, el_L_law_236 (h := zh T S1 (thc c)) hs (hb 1 (by decide)), zh_cst, e1t, el_L_law_237 r2 (by decide) (zo_12 tm) rfl, tl_some, el_L_law_240, el_L_law_242, el_L_law_243 (m_thrown tm) (by decide) (zo_12 tm) rfl, tl_some, z2, el_L_law_246, el_L_law_248 ⟨by omega, by omega⟩, if_pos rfl, el_L_law_253, el_L_law_255 (by omega), if_pos (by omega), el_L_law_270]
    exact hQ
theorem br_row (h : lwI T S c.2 x m a k) (hk : k + 1 ≤ 50000) (hC : tcx c.2) (hs : s = c.2.1.1) (hb : ∀ j : Int, 0 ≤ j ∧ j ≤ 5 → 0 ≤ i + j ∧ i + j < c.2.1.2.1 ∧ i + j ≤ 2147483647) : lwB T S c s x m a k i l5 l6 273 := by
  obtain ⟨F, sA, sB, hc, hm, hsd, ha, d1, d2⟩ := h
  have hf := hc.fI
  have tx : T x = (11, 0) := hc.1.1.1
  have tm : T m = (12, 0) := hm.1.1
  obtain ⟨w1, g1, e1⟩ := sc_w (c.2.1.2.2 (i + 1).toNat)
  have e1t : (thc c).2.1.2.2 (i + 1).toNat = zI w1 := e1
  obtain ⟨r, S1, F1, sA1, sB1, r1, f1, v1, c1, p1⟩ := lw_row (o_row (c := c) hc hC hk g1) ha tx (Or.inr (by omega)) (fun E F' hp => rowP_E hp)
  have hm1 : mR T S1 m F := hm.keep hf (fun b h1 h2 => f1 b (by omega) (by omega))
  have hs1 : ∀ j, j < 4 → S1 (m + 1) j = (c.2.2.1 j : Nat) := fun j hj => by rw [f1 _ (by omega) (by omega)]; exact hsd j hj
  have key : ∀ c2 : pm_M × pm_C, c2.2 = c.2 → mopR 6 162 [.ref m, .int (zI w1), .retAddr 0, .retAddr 0] T S1 c2 m kc1 r F1 := fun c2 hc2 => by
    exact row_m (c := c2) hm1 hf rfl g1 (by rw [hc2]; exact hC) (by rw [hc2]; exact hs1) p1
  cases r with
  | inl w =>
    dsimp only at r1 v1
    obtain ⟨v, S2, r2, f2, m2, z1, z2⟩ := key c rfl
    rw [z1] at r2
    obtain ⟨f, hf1, hf2⟩ := ld_a (c := c) (S := S2) ha (by rw [f2 a (by omega)]; exact v1)
    refine ⟨S2, c, k + 1, .int (zI 0), .int (zI w), fun Q hQ => ?_, ⟨F1, sA1, sB1, c1.keep (fun b h1 h2 => f2 b (by omega)), m2, fun j hj => by rw [f2 _ (by omega)]; exact hs1 j hj, ha, d1, d2⟩, by omega, Or.inl rfl⟩
    rw [el_L_law_273, el_L_law_274, el_L_law_275, el_L_law_277, el_L_law_278, el_L_law_279 (h := zh T S c) hs (hb 1 (by decide)), zh_cst, e1, el_L_law_280, el_L_law_281 r1 (by decide) rfl, tl_some, el_L_law_284, el_L_law_286, el_L_law_287, el_L_law_288, el_L_law_290, el_L_law_291, el_L_law_292 (h := zh T S1 c) hs (hb 1 (by decide)), zh_cst, e1, el_L_law_293 r2 (by decide) (zo_12 tm) rfl, tl_some, el_L_law_296, el_L_law_298, el_L_law_299 (m_thrown tm) (by decide) (zo_12 tm) rfl, tl_some, z2, el_L_law_302, el_L_law_304 ⟨by decide, by decide⟩, if_pos rfl, el_L_law_309, el_L_law_311 (by decide), if_neg (by decide), el_L_law_314, el_L_law_315, el_L_law_316 hf1 (by decide), show (0 : Int).toNat = 0 from rfl, hf2, el_L_law_317, el_L_law_319, el_L_law_320, lg_cmp_self, el_L_law_321 (by decide), if_pos rfl, el_L_law_326]
    exact hQ
  | inr E =>
    dsimp only at r1
    obtain ⟨v, S2, r2, f2, m2, z2⟩ := key (thc c) rfl
    have z2 : S2 m 1 = kc1 E := z2
    have hkr := kc1_r (E := E)
    refine ⟨S2, thc c, k + 1, .int (zI (kc1 E)), .int (zI v), fun Q hQ => ?_, ⟨F1, sA1, sB1, c1.keep (fun b h1 h2 => f2 b (by omega)), m2, fun j hj => by rw [f2 _ (by omega)]; exact hs1 j hj, ha, d1, d2⟩, by omega, Or.inr rfl⟩
    rw [el_L_law_273, el_L_law_274, el_L_law_275, el_L_law_277, el_L_law_278, el_L_law_279 (h := zh T S c) hs (hb 1 (by decide)), zh_cst, e1, el_L_law_280, el_L_law_281 r1 (by decide) rfl, tl_some, el_L_law_284, el_L_law_286, el_L_law_287, el_L_law_288, el_L_law_290, el_L_law_291, el_L_law_292 (h := zh T S1 (thc c)) hs (hb 1 (by decide)), zh_cst, e1t, el_L_law_293 r2 (by decide) (zo_12 tm) rfl, tl_some, el_L_law_296, el_L_law_298, el_L_law_299 (m_thrown tm) (by decide) (zo_12 tm) rfl, tl_some, z2, el_L_law_302, el_L_law_304 ⟨by omega, by omega⟩, if_pos rfl, el_L_law_309, el_L_law_311 (by omega), if_pos (by omega), el_L_law_326]
    exact hQ
theorem br_count (h : lwI T S c.2 x m a k) (hk : k + 1 ≤ 50000) (hC : tcx c.2) (hs : s = c.2.1.1) (hb : ∀ j : Int, 0 ≤ j ∧ j ≤ 5 → 0 ≤ i + j ∧ i + j < c.2.1.2.1 ∧ i + j ≤ 2147483647) : lwB T S c s x m a k i l5 l6 342 := by
  obtain ⟨F, sA, sB, hc, hm, hsd, ha, d1, d2⟩ := h
  have hf := hc.fI
  have tx : T x = (11, 0) := hc.1.1.1
  have tm : T m = (12, 0) := hm.1.1
  obtain ⟨w1, g1, e1⟩ := sc_w (c.2.1.2.2 (i + 1).toNat)
  have e1t : (thc c).2.1.2.2 (i + 1).toNat = zI w1 := e1
  obtain ⟨r, S1, F1, sA1, sB1, r1, f1, v1, c1, p1⟩ := lw_count (o_count (c := c) hc  g1) ha tx (Or.inr (by omega)) (fun E F' hp => rsE_E hp.1.symm)
  have hm1 : mR T S1 m F := hm.keep hf (fun b h1 h2 => f1 b (by omega) (by omega))
  have hs1 : ∀ j, j < 4 → S1 (m + 1) j = (c.2.2.1 j : Nat) := fun j hj => by rw [f1 _ (by omega) (by omega)]; exact hsd j hj
  have key : ∀ c2 : pm_M × pm_C, c2.2 = c.2 → mopR 2 176 [.ref m, .int (zI w1)] T S1 c2 m kc1 r F1 := fun c2 hc2 => by
    rw [p1.1, p1.2]; exact count_m hm1 hf rfl g1
  cases r with
  | inl w =>
    dsimp only at r1 v1
    obtain ⟨v, S2, r2, f2, m2, z1, z2⟩ := key c rfl
    rw [z1] at r2
    obtain ⟨f, hf1, hf2⟩ := ld_a (c := c) (S := S2) ha (by rw [f2 a (by omega)]; exact v1)
    refine ⟨S2, c, k, .int (zI 0), .int (zI w), fun Q hQ => ?_, ⟨F1, sA1, sB1, c1.keep (fun b h1 h2 => f2 b (by omega)), m2, fun j hj => by rw [f2 _ (by omega)]; exact hs1 j hj, ha, d1, d2⟩, by omega, Or.inl rfl⟩
    rw [el_L_law_342, el_L_law_343, el_L_law_344, el_L_law_346, el_L_law_347, el_L_law_348 (h := zh T S c) hs (hb 1 (by decide)), zh_cst, e1, el_L_law_349, el_L_law_350 r1 (by decide) rfl, tl_some, el_L_law_353, el_L_law_355, el_L_law_356, el_L_law_357, el_L_law_359, el_L_law_360, el_L_law_361 (h := zh T S1 c) hs (hb 1 (by decide)), zh_cst, e1, el_L_law_362 r2 (by decide) (zo_12 tm) rfl, tl_some, el_L_law_365, el_L_law_367, el_L_law_368 (m_thrown tm) (by decide) (zo_12 tm) rfl, tl_some, z2, el_L_law_371, el_L_law_373 ⟨by decide, by decide⟩, if_pos rfl, el_L_law_378, el_L_law_380 (by decide), if_neg (by decide), el_L_law_383, el_L_law_384, el_L_law_385 hf1 (by decide), show (0 : Int).toNat = 0 from rfl, hf2, el_L_law_386, el_L_law_388, el_L_law_389, lg_cmp_self, el_L_law_390 (by decide), if_pos rfl, el_L_law_395]
    exact hQ
  | inr E =>
    dsimp only at r1
    obtain ⟨v, S2, r2, f2, m2, z2⟩ := key (thc c) rfl
    have z2 : S2 m 1 = kc1 E := z2
    have hkr := kc1_r (E := E)
    refine ⟨S2, thc c, k, .int (zI (kc1 E)), .int (zI v), fun Q hQ => ?_, ⟨F1, sA1, sB1, c1.keep (fun b h1 h2 => f2 b (by omega)), m2, fun j hj => by rw [f2 _ (by omega)]; exact hs1 j hj, ha, d1, d2⟩, by omega, Or.inr rfl⟩
    rw [el_L_law_342, el_L_law_343, el_L_law_344, el_L_law_346, el_L_law_347, el_L_law_348 (h := zh T S c) hs (hb 1 (by decide)), zh_cst, e1, el_L_law_349, el_L_law_350 r1 (by decide) rfl, tl_some, el_L_law_353, el_L_law_355, el_L_law_356, el_L_law_357, el_L_law_359, el_L_law_360, el_L_law_361 (h := zh T S1 (thc c)) hs (hb 1 (by decide)), zh_cst, e1t, el_L_law_362 r2 (by decide) (zo_12 tm) rfl, tl_some, el_L_law_365, el_L_law_367, el_L_law_368 (m_thrown tm) (by decide) (zo_12 tm) rfl, tl_some, z2, el_L_law_371, el_L_law_373 ⟨by omega, by omega⟩, if_pos rfl, el_L_law_378, el_L_law_380 (by omega), if_pos (by omega), el_L_law_395]
    exact hQ
theorem br_table (h : lwI T S c.2 x m a k) (hk : k + 1 ≤ 50000) (hC : tcx c.2) (hs : s = c.2.1.1) (hb : ∀ j : Int, 0 ≤ j ∧ j ≤ 5 → 0 ≤ i + j ∧ i + j < c.2.1.2.1 ∧ i + j ≤ 2147483647) : lwB T S c s x m a k i l5 l6 398 := by
  obtain ⟨F, sA, sB, hc, hm, hsd, ha, d1, d2⟩ := h
  have hf := hc.fI
  have tx : T x = (11, 0) := hc.1.1.1
  have tm : T m = (12, 0) := hm.1.1
  obtain ⟨w1, g1, e1⟩ := sc_w (c.2.1.2.2 (i + 1).toNat)
  have e1t : (thc c).2.1.2.2 (i + 1).toNat = zI w1 := e1
  obtain ⟨w2, g2, e2⟩ := sc_w (c.2.1.2.2 (i + 2).toNat)
  have e2t : (thc c).2.1.2.2 (i + 2).toNat = zI w2 := e2
  obtain ⟨r, S1, F1, sA1, sB1, r1, f1, v1, c1, p1⟩ := lw_table (o_table (c := c) hc  g1 g2) ha tx (Or.inr (by omega)) (fun E F' hp => rsE_E hp.1.symm)
  have hm1 : mR T S1 m F := hm.keep hf (fun b h1 h2 => f1 b (by omega) (by omega))
  have hs1 : ∀ j, j < 4 → S1 (m + 1) j = (c.2.2.1 j : Nat) := fun j hj => by rw [f1 _ (by omega) (by omega)]; exact hsd j hj
  have key : ∀ c2 : pm_M × pm_C, c2.2 = c.2 → mopR 1 177 [.ref m, .int (zI w1), .int (zI w2)] T S1 c2 m kc1 r F1 := fun c2 hc2 => by
    rw [p1.1, p1.2]; exact table_m hm1 hf rfl g1 g2
  cases r with
  | inl w =>
    dsimp only at r1 v1
    obtain ⟨v, S2, r2, f2, m2, z1, z2⟩ := key c rfl
    rw [z1] at r2
    obtain ⟨f, hf1, hf2⟩ := ld_a (c := c) (S := S2) ha (by rw [f2 a (by omega)]; exact v1)
    refine ⟨S2, c, k, .int (zI 0), .int (zI w), fun Q hQ => ?_, ⟨F1, sA1, sB1, c1.keep (fun b h1 h2 => f2 b (by omega)), m2, fun j hj => by rw [f2 _ (by omega)]; exact hs1 j hj, ha, d1, d2⟩, by omega, Or.inl rfl⟩
    rw [el_L_law_398, el_L_law_399, el_L_law_400, el_L_law_402, el_L_law_403, el_L_law_404 (h := zh T S c) hs (hb 1 (by decide)), zh_cst, e1, el_L_law_405, el_L_law_406, el_L_law_408, el_L_law_409, el_L_law_410 (h := zh T S c) hs (hb 2 (by decide)), zh_cst, e2, el_L_law_411, el_L_law_412 r1 (by decide) rfl, tl_some, el_L_law_415, el_L_law_417, el_L_law_418, el_L_law_419, el_L_law_421, el_L_law_422, el_L_law_423 (h := zh T S1 c) hs (hb 1 (by decide)), zh_cst, e1, el_L_law_424, el_L_law_425, el_L_law_427, el_L_law_428, el_L_law_429 (h := zh T S1 c) hs (hb 2 (by decide)), zh_cst, e2, el_L_law_430 r2 (by decide) (zo_12 tm) rfl, tl_some, el_L_law_433, el_L_law_435, el_L_law_436 (m_thrown tm) (by decide) (zo_12 tm) rfl, tl_some, z2, el_L_law_439, el_L_law_441 ⟨by decide, by decide⟩, if_pos rfl, el_L_law_446, el_L_law_448 (by decide), if_neg (by decide), el_L_law_451, el_L_law_452, el_L_law_453 hf1 (by decide), show (0 : Int).toNat = 0 from rfl, hf2, el_L_law_454, el_L_law_456, el_L_law_457, lg_cmp_self, el_L_law_458 (by decide), if_pos rfl, el_L_law_463]
    exact hQ
  | inr E =>
    dsimp only at r1
    obtain ⟨v, S2, r2, f2, m2, z2⟩ := key (thc c) rfl
    have z2 : S2 m 1 = kc1 E := z2
    have hkr := kc1_r (E := E)
    refine ⟨S2, thc c, k, .int (zI (kc1 E)), .int (zI v), fun Q hQ => ?_, ⟨F1, sA1, sB1, c1.keep (fun b h1 h2 => f2 b (by omega)), m2, fun j hj => by rw [f2 _ (by omega)]; exact hs1 j hj, ha, d1, d2⟩, by omega, Or.inr rfl⟩
    rw [el_L_law_398, el_L_law_399, el_L_law_400, el_L_law_402, el_L_law_403, el_L_law_404 (h := zh T S c) hs (hb 1 (by decide)), zh_cst, e1, el_L_law_405, el_L_law_406, el_L_law_408, el_L_law_409, el_L_law_410 (h := zh T S c) hs (hb 2 (by decide)), zh_cst, e2, el_L_law_411, el_L_law_412 r1 (by decide) rfl, tl_some, el_L_law_415, el_L_law_417, el_L_law_418, el_L_law_419, el_L_law_421, el_L_law_422, el_L_law_423 (h := zh T S1 (thc c)) hs (hb 1 (by decide)), zh_cst, e1t, el_L_law_424, el_L_law_425, el_L_law_427, el_L_law_428, el_L_law_429 (h := zh T S1 (thc c)) hs (hb 2 (by decide)), zh_cst, e2t, el_L_law_430 r2 (by decide) (zo_12 tm) rfl, tl_some, el_L_law_433, el_L_law_435, el_L_law_436 (m_thrown tm) (by decide) (zo_12 tm) rfl, tl_some, z2, el_L_law_439, el_L_law_441 ⟨by omega, by omega⟩, if_pos rfl, el_L_law_446, el_L_law_448 (by omega), if_pos (by omega), el_L_law_463]
    exact hQ
theorem br_fold (h : lwI T S c.2 x m a k) (hk : k + 1 ≤ 50000) (hC : tcx c.2) (hs : s = c.2.1.1) (hb : ∀ j : Int, 0 ≤ j ∧ j ≤ 5 → 0 ≤ i + j ∧ i + j < c.2.1.2.1 ∧ i + j ≤ 2147483647) : lwB T S c s x m a k i l5 l6 466 := by
  obtain ⟨F, sA, sB, hc, hm, hsd, ha, d1, d2⟩ := h
  have hf := hc.fI
  have tx : T x = (11, 0) := hc.1.1.1
  have tm : T m = (12, 0) := hm.1.1
  obtain ⟨w1, g1, e1⟩ := sc_w (c.2.1.2.2 (i + 1).toNat)
  have e1t : (thc c).2.1.2.2 (i + 1).toNat = zI w1 := e1
  obtain ⟨w2, g2, e2⟩ := sc_w (c.2.1.2.2 (i + 2).toNat)
  have e2t : (thc c).2.1.2.2 (i + 2).toNat = zI w2 := e2
  obtain ⟨r, S1, F1, sA1, sB1, r1, f1, v1, c1, p1⟩ := lw_fold (o_fold (c := c) hc hk g1 g2) ha tx (Or.inr (by omega)) (fun E F' hp => by rcases hp with ⟨-, z, -⟩ | ⟨-, z, -⟩; exact Sum.inr.inj z; cases z)
  have hm1 : mR T S1 m F := hm.keep hf (fun b h1 h2 => f1 b (by omega) (by omega))
  have hs1 : ∀ j, j < 4 → S1 (m + 1) j = (c.2.2.1 j : Nat) := fun j hj => by rw [f1 _ (by omega) (by omega)]; exact hsd j hj
  have key : ∀ c2 : pm_M × pm_C, c2.2 = c.2 → mopR 4 171 [.ref m, .int (zI w1), .int (zI w2)] T S1 c2 m kc1 r F1 := fun c2 hc2 => by
    rcases p1 with ⟨q, e, e'⟩ | ⟨q, e, e'⟩
    · rw [e, e']; exact (fold_m hm1 hf rfl g1 g2).1 q
    · rw [e, e']; exact (fold_m hm1 hf rfl g1 g2).2 q
  cases r with
  | inl w =>
    dsimp only at r1 v1
    obtain ⟨v, S2, r2, f2, m2, z1, z2⟩ := key c rfl
    rw [z1] at r2
    obtain ⟨f, hf1, hf2⟩ := ld_a (c := c) (S := S2) ha (by rw [f2 a (by omega)]; exact v1)
    refine ⟨S2, c, k + 1, .int (zI 0), .int (zI w), fun Q hQ => ?_, ⟨F1, sA1, sB1, c1.keep (fun b h1 h2 => f2 b (by omega)), m2, fun j hj => by rw [f2 _ (by omega)]; exact hs1 j hj, ha, d1, d2⟩, by omega, Or.inl rfl⟩
    rw [el_L_law_466, el_L_law_467, el_L_law_468, el_L_law_470, el_L_law_471, el_L_law_472 (h := zh T S c) hs (hb 1 (by decide)), zh_cst, e1, el_L_law_473, el_L_law_474, el_L_law_476, el_L_law_477, el_L_law_478 (h := zh T S c) hs (hb 2 (by decide)), zh_cst, e2, el_L_law_479, el_L_law_480 r1 (by decide) rfl, tl_some, el_L_law_483, el_L_law_485, el_L_law_486, el_L_law_487, el_L_law_489, el_L_law_490, el_L_law_491 (h := zh T S1 c) hs (hb 1 (by decide)), zh_cst, e1, el_L_law_492, el_L_law_493, el_L_law_495, el_L_law_496, el_L_law_497 (h := zh T S1 c) hs (hb 2 (by decide)), zh_cst, e2, el_L_law_498 r2 (by decide) (zo_12 tm) rfl, tl_some, el_L_law_501, el_L_law_503, el_L_law_504 (m_thrown tm) (by decide) (zo_12 tm) rfl, tl_some, z2, el_L_law_507, el_L_law_509 ⟨by decide, by decide⟩, if_pos rfl, el_L_law_514, el_L_law_516 (by decide), if_neg (by decide), el_L_law_519, el_L_law_520, el_L_law_521 hf1 (by decide), show (0 : Int).toNat = 0 from rfl, hf2, el_L_law_522, el_L_law_524, el_L_law_525, lg_cmp_self, el_L_law_526 (by decide), if_pos rfl, el_L_law_531]
    exact hQ
  | inr E =>
    dsimp only at r1
    obtain ⟨v, S2, r2, f2, m2, z2⟩ := key (thc c) rfl
    have z2 : S2 m 1 = kc1 E := z2
    have hkr := kc1_r (E := E)
    refine ⟨S2, thc c, k + 1, .int (zI (kc1 E)), .int (zI v), fun Q hQ => ?_, ⟨F1, sA1, sB1, c1.keep (fun b h1 h2 => f2 b (by omega)), m2, fun j hj => by rw [f2 _ (by omega)]; exact hs1 j hj, ha, d1, d2⟩, by omega, Or.inr rfl⟩
    rw [el_L_law_466, el_L_law_467, el_L_law_468, el_L_law_470, el_L_law_471, el_L_law_472 (h := zh T S c) hs (hb 1 (by decide)), zh_cst, e1, el_L_law_473, el_L_law_474, el_L_law_476, el_L_law_477, el_L_law_478 (h := zh T S c) hs (hb 2 (by decide)), zh_cst, e2, el_L_law_479, el_L_law_480 r1 (by decide) rfl, tl_some, el_L_law_483, el_L_law_485, el_L_law_486, el_L_law_487, el_L_law_489, el_L_law_490, el_L_law_491 (h := zh T S1 (thc c)) hs (hb 1 (by decide)), zh_cst, e1t, el_L_law_492, el_L_law_493, el_L_law_495, el_L_law_496, el_L_law_497 (h := zh T S1 (thc c)) hs (hb 2 (by decide)), zh_cst, e2t, el_L_law_498 r2 (by decide) (zo_12 tm) rfl, tl_some, el_L_law_501, el_L_law_503, el_L_law_504 (m_thrown tm) (by decide) (zo_12 tm) rfl, tl_some, z2, el_L_law_507, el_L_law_509 ⟨by omega, by omega⟩, if_pos rfl, el_L_law_514, el_L_law_516 (by omega), if_pos (by omega), el_L_law_531]
    exact hQ
theorem br_layer (h : lwI T S c.2 x m a k) (hk : k + 1 ≤ 50000) (hC : tcx c.2) (hs : s = c.2.1.1) (hb : ∀ j : Int, 0 ≤ j ∧ j ≤ 5 → 0 ≤ i + j ∧ i + j < c.2.1.2.1 ∧ i + j ≤ 2147483647) : lwB T S c s x m a k i l5 l6 547 := by
  obtain ⟨F, sA, sB, hc, hm, hsd, ha, d1, d2⟩ := h
  have hf := hc.fI
  have tx : T x = (11, 0) := hc.1.1.1
  have tm : T m = (12, 0) := hm.1.1
  obtain ⟨w1, g1, e1⟩ := sc_w (c.2.1.2.2 (i + 1).toNat)
  have e1t : (thc c).2.1.2.2 (i + 1).toNat = zI w1 := e1
  obtain ⟨w2, g2, e2⟩ := sc_w (c.2.1.2.2 (i + 2).toNat)
  have e2t : (thc c).2.1.2.2 (i + 2).toNat = zI w2 := e2
  obtain ⟨w3, g3, e3⟩ := sc_w (c.2.1.2.2 (i + 3).toNat)
  have e3t : (thc c).2.1.2.2 (i + 3).toNat = zI w3 := e3
  obtain ⟨r, S1, F1, sA1, sB1, r1, f1, v1, c1, p1⟩ := lw_layer (o_layer (c := c) hc  g1 g2 g3) ha tx (Or.inr (by omega)) (fun E F' hp => rsE_E hp.1.symm)
  have hm1 : mR T S1 m F := hm.keep hf (fun b h1 h2 => f1 b (by omega) (by omega))
  have hs1 : ∀ j, j < 4 → S1 (m + 1) j = (c.2.2.1 j : Nat) := fun j hj => by rw [f1 _ (by omega) (by omega)]; exact hsd j hj
  have key : ∀ c2 : pm_M × pm_C, c2.2 = c.2 → mopR 1 178 [.ref m, .int (zI w1), .int (zI w2), .int (zI w3), .retAddr 0, .retAddr 0, .retAddr 0] T S1 c2 m kc1 r F1 := fun c2 hc2 => by
    rw [p1.1, p1.2]; exact layer_m hm1 hf rfl g1 g2 g3
  cases r with
  | inl w =>
    dsimp only at r1 v1
    obtain ⟨v, S2, r2, f2, m2, z1, z2⟩ := key c rfl
    rw [z1] at r2
    obtain ⟨f, hf1, hf2⟩ := ld_a (c := c) (S := S2) ha (by rw [f2 a (by omega)]; exact v1)
    refine ⟨S2, c, k, .int (zI 0), .int (zI w), fun Q hQ => ?_, ⟨F1, sA1, sB1, c1.keep (fun b h1 h2 => f2 b (by omega)), m2, fun j hj => by rw [f2 _ (by omega)]; exact hs1 j hj, ha, d1, d2⟩, by omega, Or.inl rfl⟩
    rw [el_L_law_547, el_L_law_548, el_L_law_549, el_L_law_551, el_L_law_552, el_L_law_553 (h := zh T S c) hs (hb 1 (by decide)), zh_cst, e1, el_L_law_554, el_L_law_555, el_L_law_557, el_L_law_558, el_L_law_559 (h := zh T S c) hs (hb 2 (by decide)), zh_cst, e2, el_L_law_560, el_L_law_561, el_L_law_563, el_L_law_564, el_L_law_565 (h := zh T S c) hs (hb 3 (by decide)), zh_cst, e3, el_L_law_566, el_L_law_567 r1 (by decide) rfl, tl_some, el_L_law_570, el_L_law_572, el_L_law_573, el_L_law_574, el_L_law_576, el_L_law_577, el_L_law_578 (h := zh T S1 c) hs (hb 1 (by decide)), zh_cst, e1, el_L_law_579, el_L_law_580, el_L_law_582, el_L_law_583, el_L_law_584 (h := zh T S1 c) hs (hb 2 (by decide)), zh_cst, e2, el_L_law_585, el_L_law_586, el_L_law_588, el_L_law_589, el_L_law_590 (h := zh T S1 c) hs (hb 3 (by decide)), zh_cst, e3, el_L_law_591 r2 (by decide) (zo_12 tm) rfl, tl_some, el_L_law_594, el_L_law_596, el_L_law_597 (m_thrown tm) (by decide) (zo_12 tm) rfl, tl_some, z2, el_L_law_600, el_L_law_602 ⟨by decide, by decide⟩, if_pos rfl, el_L_law_607, el_L_law_609 (by decide), if_neg (by decide), el_L_law_612, el_L_law_613, el_L_law_614 hf1 (by decide), show (0 : Int).toNat = 0 from rfl, hf2, el_L_law_615, el_L_law_617, el_L_law_618, lg_cmp_self, el_L_law_619 (by decide), if_pos rfl, el_L_law_624]
    exact hQ
  | inr E =>
    dsimp only at r1
    obtain ⟨v, S2, r2, f2, m2, z2⟩ := key (thc c) rfl
    have z2 : S2 m 1 = kc1 E := z2
    have hkr := kc1_r (E := E)
    refine ⟨S2, thc c, k, .int (zI (kc1 E)), .int (zI v), fun Q hQ => ?_, ⟨F1, sA1, sB1, c1.keep (fun b h1 h2 => f2 b (by omega)), m2, fun j hj => by rw [f2 _ (by omega)]; exact hs1 j hj, ha, d1, d2⟩, by omega, Or.inr rfl⟩
    rw [el_L_law_547, el_L_law_548, el_L_law_549, el_L_law_551, el_L_law_552, el_L_law_553 (h := zh T S c) hs (hb 1 (by decide)), zh_cst, e1, el_L_law_554, el_L_law_555, el_L_law_557, el_L_law_558, el_L_law_559 (h := zh T S c) hs (hb 2 (by decide)), zh_cst, e2, el_L_law_560, el_L_law_561, el_L_law_563, el_L_law_564, el_L_law_565 (h := zh T S c) hs (hb 3 (by decide)), zh_cst, e3, el_L_law_566, el_L_law_567 r1 (by decide) rfl, tl_some, el_L_law_570, el_L_law_572, el_L_law_573, el_L_law_574, el_L_law_576, el_L_law_577, el_L_law_578 (h := zh T S1 (thc c)) hs (hb 1 (by decide)), zh_cst, e1t, el_L_law_579, el_L_law_580, el_L_law_582, el_L_law_583, el_L_law_584 (h := zh T S1 (thc c)) hs (hb 2 (by decide)), zh_cst, e2t, el_L_law_585, el_L_law_586, el_L_law_588, el_L_law_589, el_L_law_590 (h := zh T S1 (thc c)) hs (hb 3 (by decide)), zh_cst, e3t, el_L_law_591 r2 (by decide) (zo_12 tm) rfl, tl_some, el_L_law_594, el_L_law_596, el_L_law_597 (m_thrown tm) (by decide) (zo_12 tm) rfl, tl_some, z2, el_L_law_600, el_L_law_602 ⟨by omega, by omega⟩, if_pos rfl, el_L_law_607, el_L_law_609 (by omega), if_pos (by omega), el_L_law_624]
    exact hQ
theorem br_crease (h : lwI T S c.2 x m a k) (hk : k + 1 ≤ 50000) (hC : tcx c.2) (hs : s = c.2.1.1) (hb : ∀ j : Int, 0 ≤ j ∧ j ≤ 5 → 0 ≤ i + j ∧ i + j < c.2.1.2.1 ∧ i + j ≤ 2147483647) : lwB T S c s x m a k i l5 l6 627 := by
  obtain ⟨F, sA, sB, hc, hm, hsd, ha, d1, d2⟩ := h
  have hf := hc.fI
  have tx : T x = (11, 0) := hc.1.1.1
  have tm : T m = (12, 0) := hm.1.1
  obtain ⟨w1, g1, e1⟩ := sc_w (c.2.1.2.2 (i + 1).toNat)
  have e1t : (thc c).2.1.2.2 (i + 1).toNat = zI w1 := e1
  obtain ⟨w2, g2, e2⟩ := sc_w (c.2.1.2.2 (i + 2).toNat)
  have e2t : (thc c).2.1.2.2 (i + 2).toNat = zI w2 := e2
  obtain ⟨w3, g3, e3⟩ := sc_w (c.2.1.2.2 (i + 3).toNat)
  obtain ⟨b3, gb3, eb3⟩ := sc_b w3
  have e3t : (thc c).2.1.2.2 (i + 3).toNat = zI w3 := e3
  obtain ⟨r, S1, F1, sA1, sB1, r1, f1, v1, c1, p1⟩ := lw_crease (o_crease (c := c) hc  g1 g2 gb3) ha tx (Or.inr (by omega)) (fun E F' hp => rsE_E hp.1.symm)
  have hm1 : mR T S1 m F := hm.keep hf (fun b h1 h2 => f1 b (by omega) (by omega))
  have hs1 : ∀ j, j < 4 → S1 (m + 1) j = (c.2.2.1 j : Nat) := fun j hj => by rw [f1 _ (by omega) (by omega)]; exact hsd j hj
  have key : ∀ c2 : pm_M × pm_C, c2.2 = c.2 → mopR 1 179 [.ref m, .int (zI w1), .int (zI w2), .int (zI b3)] T S1 c2 m kc1 r F1 := fun c2 hc2 => by
    rw [p1.1, p1.2]; exact crease_m hm1 hf rfl g1 g2 gb3
  cases r with
  | inl w =>
    dsimp only at r1 v1
    obtain ⟨v, S2, r2, f2, m2, z1, z2⟩ := key c rfl
    rw [z1] at r2
    obtain ⟨f, hf1, hf2⟩ := ld_a (c := c) (S := S2) ha (by rw [f2 a (by omega)]; exact v1)
    refine ⟨S2, c, k, .int (zI 0), .int (zI w), fun Q hQ => ?_, ⟨F1, sA1, sB1, c1.keep (fun b h1 h2 => f2 b (by omega)), m2, fun j hj => by rw [f2 _ (by omega)]; exact hs1 j hj, ha, d1, d2⟩, by omega, Or.inl rfl⟩
    rw [el_L_law_627, el_L_law_628, el_L_law_629, el_L_law_631, el_L_law_632, el_L_law_633 (h := zh T S c) hs (hb 1 (by decide)), zh_cst, e1, el_L_law_634, el_L_law_635, el_L_law_637, el_L_law_638, el_L_law_639 (h := zh T S c) hs (hb 2 (by decide)), zh_cst, e2, el_L_law_640, el_L_law_641, el_L_law_643, el_L_law_644, el_L_law_645 (h := zh T S c) hs (hb 3 (by decide)), zh_cst, e3, bz_646 g3, eb3, el_L_law_654, el_L_law_655 r1 (by decide) rfl, tl_some, el_L_law_658, el_L_law_660, el_L_law_661, el_L_law_662, el_L_law_664, el_L_law_665, el_L_law_666 (h := zh T S1 c) hs (hb 1 (by decide)), zh_cst, e1, el_L_law_667, el_L_law_668, el_L_law_670, el_L_law_671, el_L_law_672 (h := zh T S1 c) hs (hb 2 (by decide)), zh_cst, e2, el_L_law_673, el_L_law_674, el_L_law_676, el_L_law_677, el_L_law_678 (h := zh T S1 c) hs (hb 3 (by decide)), zh_cst, e3, bz_679 g3, eb3, el_L_law_687 r2 (by decide) (zo_12 tm) rfl, tl_some, el_L_law_690, el_L_law_692, el_L_law_693 (m_thrown tm) (by decide) (zo_12 tm) rfl, tl_some, z2, el_L_law_696, el_L_law_698 ⟨by decide, by decide⟩, if_pos rfl, el_L_law_703, el_L_law_705 (by decide), if_neg (by decide), el_L_law_708, el_L_law_709, el_L_law_710 hf1 (by decide), show (0 : Int).toNat = 0 from rfl, hf2, el_L_law_711, el_L_law_713, el_L_law_714, lg_cmp_self, el_L_law_715 (by decide), if_pos rfl, el_L_law_720]
    exact hQ
  | inr E =>
    dsimp only at r1
    obtain ⟨v, S2, r2, f2, m2, z2⟩ := key (thc c) rfl
    have z2 : S2 m 1 = kc1 E := z2
    have hkr := kc1_r (E := E)
    refine ⟨S2, thc c, k, .int (zI (kc1 E)), .int (zI v), fun Q hQ => ?_, ⟨F1, sA1, sB1, c1.keep (fun b h1 h2 => f2 b (by omega)), m2, fun j hj => by rw [f2 _ (by omega)]; exact hs1 j hj, ha, d1, d2⟩, by omega, Or.inr rfl⟩
    rw [el_L_law_627, el_L_law_628, el_L_law_629, el_L_law_631, el_L_law_632, el_L_law_633 (h := zh T S c) hs (hb 1 (by decide)), zh_cst, e1, el_L_law_634, el_L_law_635, el_L_law_637, el_L_law_638, el_L_law_639 (h := zh T S c) hs (hb 2 (by decide)), zh_cst, e2, el_L_law_640, el_L_law_641, el_L_law_643, el_L_law_644, el_L_law_645 (h := zh T S c) hs (hb 3 (by decide)), zh_cst, e3, bz_646 g3, eb3, el_L_law_654, el_L_law_655 r1 (by decide) rfl, tl_some, el_L_law_658, el_L_law_660, el_L_law_661, el_L_law_662, el_L_law_664, el_L_law_665, el_L_law_666 (h := zh T S1 (thc c)) hs (hb 1 (by decide)), zh_cst, e1t, el_L_law_667, el_L_law_668, el_L_law_670, el_L_law_671, el_L_law_672 (h := zh T S1 (thc c)) hs (hb 2 (by decide)), zh_cst, e2t, el_L_law_673, el_L_law_674, el_L_law_676, el_L_law_677, el_L_law_678 (h := zh T S1 (thc c)) hs (hb 3 (by decide)), zh_cst, e3t, bz_679 g3, eb3, el_L_law_687 r2 (by decide) (zo_12 tm) rfl, tl_some, el_L_law_690, el_L_law_692, el_L_law_693 (m_thrown tm) (by decide) (zo_12 tm) rfl, tl_some, z2, el_L_law_696, el_L_law_698 ⟨by omega, by omega⟩, if_pos rfl, el_L_law_703, el_L_law_705 (by omega), if_pos (by omega), el_L_law_720]
    exact hQ
theorem br_flight (h : lwI T S c.2 x m a k) (hk : k + 1 ≤ 50000) (hC : tcx c.2) (hs : s = c.2.1.1) (hb : ∀ j : Int, 0 ≤ j ∧ j ≤ 5 → 0 ≤ i + j ∧ i + j < c.2.1.2.1 ∧ i + j ≤ 2147483647) : lwB T S c s x m a k i l5 l6 723 := by
  obtain ⟨F, sA, sB, hc, hm, hsd, ha, d1, d2⟩ := h
  have hf := hc.fI
  have tx : T x = (11, 0) := hc.1.1.1
  have tm : T m = (12, 0) := hm.1.1
  obtain ⟨w1, g1, e1⟩ := sc_w (c.2.1.2.2 (i + 1).toNat)
  have e1t : (thc c).2.1.2.2 (i + 1).toNat = zI w1 := e1
  obtain ⟨w2, g2, e2⟩ := sc_w (c.2.1.2.2 (i + 2).toNat)
  have e2t : (thc c).2.1.2.2 (i + 2).toNat = zI w2 := e2
  obtain ⟨w3, g3, e3⟩ := sc_w (c.2.1.2.2 (i + 3).toNat)
  obtain ⟨b3, gb3, eb3⟩ := sc_b w3
  have e3t : (thc c).2.1.2.2 (i + 3).toNat = zI w3 := e3
  obtain ⟨w4, g4, e4⟩ := sc_w (c.2.1.2.2 (i + 4).toNat)
  have e4t : (thc c).2.1.2.2 (i + 4).toNat = zI w4 := e4
  obtain ⟨r, S1, F1, sA1, sB1, r1, f1, v1, c1, p1⟩ := lw_flight (o_flight (c := c) hc  g1 g2 gb3 g4) ha tx (Or.inr (by omega)) (fun E F' hp => flightM_E hp.1.symm)
  have hm1 : mR T S1 m F := hm.keep hf (fun b h1 h2 => f1 b (by omega) (by omega))
  have hs1 : ∀ j, j < 4 → S1 (m + 1) j = (c.2.2.1 j : Nat) := fun j hj => by rw [f1 _ (by omega) (by omega)]; exact hsd j hj
  have key : ∀ c2 : pm_M × pm_C, c2.2 = c.2 → mopR 3 184 [.ref m, .int (zI w1), .int (zI w2), .int (zI b3), .int (zI w4)] T S1 c2 m kc2 r F1 := fun c2 hc2 => by
    rw [p1.1, p1.2]; exact flight_m hm1 hf g1 g2 gb3 g4
  cases r with
  | inl w =>
    dsimp only at r1 v1
    obtain ⟨v, S2, r2, f2, m2, z1, z2⟩ := key c rfl
    rw [z1] at r2
    obtain ⟨f, hf1, hf2⟩ := ld_a (c := c) (S := S2) ha (by rw [f2 a (by omega)]; exact v1)
    refine ⟨S2, c, k, .int (zI 0), .int (zI w), fun Q hQ => ?_, ⟨F1, sA1, sB1, c1.keep (fun b h1 h2 => f2 b (by omega)), m2, fun j hj => by rw [f2 _ (by omega)]; exact hs1 j hj, ha, d1, d2⟩, by omega, Or.inl rfl⟩
    rw [el_L_law_723, el_L_law_724, el_L_law_725, el_L_law_727, el_L_law_728, el_L_law_729 (h := zh T S c) hs (hb 1 (by decide)), zh_cst, e1, el_L_law_730, el_L_law_731, el_L_law_733, el_L_law_734, el_L_law_735 (h := zh T S c) hs (hb 2 (by decide)), zh_cst, e2, el_L_law_736, el_L_law_737, el_L_law_739, el_L_law_740, el_L_law_741 (h := zh T S c) hs (hb 3 (by decide)), zh_cst, e3, bz_742 g3, eb3, el_L_law_750, el_L_law_751, el_L_law_753, el_L_law_754, el_L_law_755 (h := zh T S c) hs (hb 4 (by decide)), zh_cst, e4, el_L_law_756, el_L_law_757 r1 (by decide) rfl, tl_some, el_L_law_760, el_L_law_762, el_L_law_763, el_L_law_764, el_L_law_766, el_L_law_767, el_L_law_768 (h := zh T S1 c) hs (hb 1 (by decide)), zh_cst, e1, el_L_law_769, el_L_law_770, el_L_law_772, el_L_law_773, el_L_law_774 (h := zh T S1 c) hs (hb 2 (by decide)), zh_cst, e2, el_L_law_775, el_L_law_776, el_L_law_778, el_L_law_779, el_L_law_780 (h := zh T S1 c) hs (hb 3 (by decide)), zh_cst, e3, bz_781 g3, eb3, el_L_law_789, el_L_law_790, el_L_law_792, el_L_law_793, el_L_law_794 (h := zh T S1 c) hs (hb 4 (by decide)), zh_cst, e4, el_L_law_795 r2 (by decide) (zo_12 tm) rfl, tl_some, el_L_law_798, el_L_law_800, el_L_law_801 (m_thrown tm) (by decide) (zo_12 tm) rfl, tl_some, z2, el_L_law_804, el_L_law_806 ⟨by decide, by decide⟩, if_pos rfl, el_L_law_811, el_L_law_813 (by decide), if_neg (by decide), el_L_law_816, el_L_law_817, el_L_law_818 hf1 (by decide), show (0 : Int).toNat = 0 from rfl, hf2, el_L_law_819, el_L_law_821, el_L_law_822, lg_cmp_self, el_L_law_823 (by decide), if_pos rfl, el_L_law_828]
    exact hQ
  | inr E =>
    dsimp only at r1
    obtain ⟨v, S2, r2, f2, m2, z2⟩ := key (thc c) rfl
    have z2 : S2 m 1 = kc2 E := z2
    have hkr := kc2_r (E := E)
    refine ⟨S2, thc c, k, .int (zI (kc2 E)), .int (zI v), fun Q hQ => ?_, ⟨F1, sA1, sB1, c1.keep (fun b h1 h2 => f2 b (by omega)), m2, fun j hj => by rw [f2 _ (by omega)]; exact hs1 j hj, ha, d1, d2⟩, by omega, Or.inr rfl⟩
    rw [el_L_law_723, el_L_law_724, el_L_law_725, el_L_law_727, el_L_law_728, el_L_law_729 (h := zh T S c) hs (hb 1 (by decide)), zh_cst, e1, el_L_law_730, el_L_law_731, el_L_law_733, el_L_law_734, el_L_law_735 (h := zh T S c) hs (hb 2 (by decide)), zh_cst, e2, el_L_law_736, el_L_law_737, el_L_law_739, el_L_law_740, el_L_law_741 (h := zh T S c) hs (hb 3 (by decide)), zh_cst, e3, bz_742 g3, eb3, el_L_law_750, el_L_law_751, el_L_law_753, el_L_law_754, el_L_law_755 (h := zh T S c) hs (hb 4 (by decide)), zh_cst, e4, el_L_law_756, el_L_law_757 r1 (by decide) rfl, tl_some, el_L_law_760, el_L_law_762, el_L_law_763, el_L_law_764, el_L_law_766, el_L_law_767, el_L_law_768 (h := zh T S1 (thc c)) hs (hb 1 (by decide)), zh_cst, e1t, el_L_law_769, el_L_law_770, el_L_law_772, el_L_law_773, el_L_law_774 (h := zh T S1 (thc c)) hs (hb 2 (by decide)), zh_cst, e2t, el_L_law_775, el_L_law_776, el_L_law_778, el_L_law_779, el_L_law_780 (h := zh T S1 (thc c)) hs (hb 3 (by decide)), zh_cst, e3t, bz_781 g3, eb3, el_L_law_789, el_L_law_790, el_L_law_792, el_L_law_793, el_L_law_794 (h := zh T S1 (thc c)) hs (hb 4 (by decide)), zh_cst, e4t, el_L_law_795 r2 (by decide) (zo_12 tm) rfl, tl_some, el_L_law_798, el_L_law_800, el_L_law_801 (m_thrown tm) (by decide) (zo_12 tm) rfl, tl_some, z2, el_L_law_804, el_L_law_806 ⟨by omega, by omega⟩, if_pos rfl, el_L_law_811, el_L_law_813 (by omega), if_pos (by omega), el_L_law_828]
    exact hQ
end LAW
