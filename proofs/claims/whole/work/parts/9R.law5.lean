/-! THE LAW, 5: branches with a helper -/
section LAW
variable {T : Nat → Nat × Nat} {S : Nat → Nat → Int} {c : pm_M × pm_C} {s x m a : Nat} {k i : Int} {l5 l6 : Value}
theorem br_step (h : lwI T S c.2 x m a k) (hk : k + 1 ≤ 50000) (hC : tcx c.2) (hs : s = c.2.1.1) (hb : ∀ j : Int, 0 ≤ j ∧ j ≤ 5 → 0 ≤ i + j ∧ i + j < c.2.1.2.1 ∧ i + j ≤ 2147483647) : lwB T S c s x m a k i l5 l6 831 := by
  obtain ⟨F, sA, sB, hc, hm, hsd, ha, d1, d2⟩ := h
  have hf := hc.fI
  have tx : T x = (11, 0) := hc.1.1.1
  have tm : T m = (12, 0) := hm.1.1
  obtain ⟨w1, g1, e1⟩ := sc_w (c.2.1.2.2 (i + 1).toNat)
  have e1t : (thc c).2.1.2.2 (i + 1).toNat = zI w1 := e1
  obtain ⟨w2, g2, e2⟩ := sc_w (c.2.1.2.2 (i + 2).toNat)
  have e2t : (thc c).2.1.2.2 (i + 2).toNat = zI w2 := e2
  obtain ⟨w3, g3, e3⟩ := sc_w (c.2.1.2.2 (i + 3).toNat)
  obtain ⟨b3, gb3, eb3⟩ := sc_b w3
  have e3t : (thc c).2.1.2.2 (i + 3).toNat = zI w3 := e3
  obtain ⟨w4, g4, e4⟩ := sc_w (c.2.1.2.2 (i + 4).toNat)
  have e4t : (thc c).2.1.2.2 (i + 4).toNat = zI w4 := e4
  obtain ⟨w5, g5, e5⟩ := sc_w (c.2.1.2.2 (i + 5).toNat)
  have e5t : (thc c).2.1.2.2 (i + 5).toNat = zI w5 := e5
  obtain ⟨r, S1, F1, sA1, sB1, r1, f1, v1, c1, p1⟩ := lw_step (o_step (c := c) hc  g1 g2 gb3 g4 g5) ha tx (Or.inr (by omega)) (fun E F' hp => stepM_E hp.1.symm)
  have hm1 : mR T S1 m F := hm.keep hf (fun b h1 h2 => f1 b (by omega) (by omega))
  have hs1 : ∀ j, j < 4 → S1 (m + 1) j = (c.2.2.1 j : Nat) := fun j hj => by rw [f1 _ (by omega) (by omega)]; exact hsd j hj
  have key : ∀ c2 : pm_M × pm_C, c2.2 = c.2 → mopR 3 185 [.ref m, .int (zI w1), .int (zI w2), .int (zI b3), .int (zI w4), .int (zI w5), .retAddr 0, .retAddr 0] T S1 c2 m kc2 r F1 := fun c2 hc2 => by
    rw [p1.1, p1.2]; exact step_m hm1 hf g1 g2 gb3 g4 g5
  cases r with
  | inl w =>
    dsimp only at r1 v1
    obtain ⟨v, S2, r2, f2, m2, z1, z2⟩ := key c rfl
    rw [z1] at r2
    obtain ⟨f, hf1, hf2⟩ := ld_a (c := c) (S := S2) ha (by rw [f2 a (by omega)]; exact v1)
    refine ⟨S2, c, k, .int (zI 0), .int (zI w), fun Q hQ => ?_, ⟨F1, sA1, sB1, c1.keep (fun b h1 h2 => f2 b (by omega)), m2, fun j hj => by rw [f2 _ (by omega)]; exact hs1 j hj, ha, d1, d2⟩, by omega, Or.inl rfl⟩
    rw [el_L_law_831, el_L_law_832, el_L_law_833, el_L_law_835, el_L_law_836, el_L_law_837 (h := zh T S c) hs (hb 1 (by decide)), zh_cst, e1, el_L_law_838, el_L_law_839, el_L_law_841, el_L_law_842, el_L_law_843 (h := zh T S c) hs (hb 2 (by decide)), zh_cst, e2, el_L_law_844, el_L_law_845, el_L_law_847, el_L_law_848, el_L_law_849 (h := zh T S c) hs (hb 3 (by decide)), zh_cst, e3, bz_850 g3, eb3, el_L_law_858, el_L_law_859, el_L_law_861, el_L_law_862, el_L_law_863 (h := zh T S c) hs (hb 4 (by decide)), zh_cst, e4, el_L_law_864, el_L_law_865, el_L_law_867, el_L_law_868, el_L_law_869 (h := zh T S c) hs (hb 5 (by decide)), zh_cst, e5, el_L_law_870, el_L_law_871 r1 (by decide) rfl, tl_some, el_L_law_874, el_L_law_876, el_L_law_877, el_L_law_878, el_L_law_880, el_L_law_881, el_L_law_882 (h := zh T S1 c) hs (hb 1 (by decide)), zh_cst, e1, el_L_law_883, el_L_law_884, el_L_law_886, el_L_law_887, el_L_law_888 (h := zh T S1 c) hs (hb 2 (by decide)), zh_cst, e2, el_L_law_889, el_L_law_890, el_L_law_892, el_L_law_893, el_L_law_894 (h := zh T S1 c) hs (hb 3 (by decide)), zh_cst, e3, bz_895 g3, eb3, el_L_law_903, el_L_law_904, el_L_law_906, el_L_law_907, el_L_law_908 (h := zh T S1 c) hs (hb 4 (by decide)), zh_cst, e4, el_L_law_909, el_L_law_910, el_L_law_912, el_L_law_913, el_L_law_914 (h := zh T S1 c) hs (hb 5 (by decide)), zh_cst, e5, el_L_law_915 r2 (by decide) (zo_12 tm) rfl, tl_some, el_L_law_918, el_L_law_920, el_L_law_921 (m_thrown tm) (by decide) (zo_12 tm) rfl, tl_some, z2, el_L_law_924, el_L_law_926 ⟨by decide, by decide⟩, if_pos rfl, el_L_law_931, el_L_law_933 (by decide), if_neg (by decide), el_L_law_936, el_L_law_937, el_L_law_938 hf1 (by decide), show (0 : Int).toNat = 0 from rfl, hf2, el_L_law_939, el_L_law_941, el_L_law_942, lg_cmp_self, el_L_law_943 (by decide), if_pos rfl, el_L_law_948]
    exact hQ
  | inr E =>
    dsimp only at r1
    obtain ⟨v, S2, r2, f2, m2, z2⟩ := key (thc c) rfl
    have z2 : S2 m 1 = kc2 E := z2
    have hkr := kc2_r (E := E)
    refine ⟨S2, thc c, k, .int (zI (kc2 E)), .int (zI v), fun Q hQ => ?_, ⟨F1, sA1, sB1, c1.keep (fun b h1 h2 => f2 b (by omega)), m2, fun j hj => by rw [f2 _ (by omega)]; exact hs1 j hj, ha, d1, d2⟩, by omega, Or.inr rfl⟩
    rw [el_L_law_831, el_L_law_832, el_L_law_833, el_L_law_835, el_L_law_836, el_L_law_837 (h := zh T S c) hs (hb 1 (by decide)), zh_cst, e1, el_L_law_838, el_L_law_839, el_L_law_841, el_L_law_842, el_L_law_843 (h := zh T S c) hs (hb 2 (by decide)), zh_cst, e2, el_L_law_844, el_L_law_845, el_L_law_847, el_L_law_848, el_L_law_849 (h := zh T S c) hs (hb 3 (by decide)), zh_cst, e3, bz_850 g3, eb3, el_L_law_858, el_L_law_859, el_L_law_861, el_L_law_862, el_L_law_863 (h := zh T S c) hs (hb 4 (by decide)), zh_cst, e4, el_L_law_864, el_L_law_865, el_L_law_867, el_L_law_868, el_L_law_869 (h := zh T S c) hs (hb 5 (by decide)), zh_cst, e5, el_L_law_870, el_L_law_871 r1 (by decide) rfl, tl_some, el_L_law_874, el_L_law_876, el_L_law_877, el_L_law_878, el_L_law_880, el_L_law_881, el_L_law_882 (h := zh T S1 (thc c)) hs (hb 1 (by decide)), zh_cst, e1t, el_L_law_883, el_L_law_884, el_L_law_886, el_L_law_887, el_L_law_888 (h := zh T S1 (thc c)) hs (hb 2 (by decide)), zh_cst, e2t, el_L_law_889, el_L_law_890, el_L_law_892, el_L_law_893, el_L_law_894 (h := zh T S1 (thc c)) hs (hb 3 (by decide)), zh_cst, e3t, bz_895 g3, eb3, el_L_law_903, el_L_law_904, el_L_law_906, el_L_law_907, el_L_law_908 (h := zh T S1 (thc c)) hs (hb 4 (by decide)), zh_cst, e4t, el_L_law_909, el_L_law_910, el_L_law_912, el_L_law_913, el_L_law_914 (h := zh T S1 (thc c)) hs (hb 5 (by decide)), zh_cst, e5t, el_L_law_915 r2 (by decide) (zo_12 tm) rfl, tl_some, el_L_law_918, el_L_law_920, el_L_law_921 (m_thrown tm) (by decide) (zo_12 tm) rfl, tl_some, z2, el_L_law_924, el_L_law_926 ⟨by omega, by omega⟩, if_pos rfl, el_L_law_931, el_L_law_933 (by omega), if_pos (by omega), el_L_law_948]
    exact hQ
theorem br_best (h : lwI T S c.2 x m a k) (hk : k + 1 ≤ 50000) (hC : tcx c.2) (hs : s = c.2.1.1) (hb : ∀ j : Int, 0 ≤ j ∧ j ≤ 5 → 0 ≤ i + j ∧ i + j < c.2.1.2.1 ∧ i + j ≤ 2147483647) : lwB T S c s x m a k i l5 l6 951 := by
  obtain ⟨F, sA, sB, hc, hm, hsd, ha, d1, d2⟩ := h
  have hf := hc.fI
  have tx : T x = (11, 0) := hc.1.1.1
  have tm : T m = (12, 0) := hm.1.1
  obtain ⟨w1, g1, e1⟩ := sc_w (c.2.1.2.2 (i + 1).toNat)
  have e1t : (thc c).2.1.2.2 (i + 1).toNat = zI w1 := e1
  obtain ⟨w2, g2, e2⟩ := sc_w (c.2.1.2.2 (i + 2).toNat)
  have e2t : (thc c).2.1.2.2 (i + 2).toNat = zI w2 := e2
  obtain ⟨w3, g3, e3⟩ := sc_w (c.2.1.2.2 (i + 3).toNat)
  have e3t : (thc c).2.1.2.2 (i + 3).toNat = zI w3 := e3
  obtain ⟨r, S1, F1, sA1, sB1, r1, f1, v1, c1, p1⟩ := lw_best (o_best (c := c) hc  g1 g2 g3) ha tx (Or.inr (by omega)) (fun E F' hp => by rcases hp with ⟨-, z, -⟩ | ⟨-, -, z, -⟩ | ⟨-, ⟨-, z, -⟩ | ⟨-, -, z, -⟩ | ⟨-, -, z, -⟩⟩; exact Or.inl (Sum.inr.inj z); exact Or.inr (Sum.inr.inj z); cases z; cases z; cases z)
  have hm1 : mR T S1 m F := hm.keep hf (fun b h1 h2 => f1 b (by omega) (by omega))
  have hs1 : ∀ j, j < 4 → S1 (m + 1) j = (c.2.2.1 j : Nat) := fun j hj => by rw [f1 _ (by omega) (by omega)]; exact hsd j hj
  have key : ∀ c2 : pm_M × pm_C, c2.2 = c.2 → mopR 5 190 [.ref m, .int (zI w1), .int (zI w2), .int (zI w3), .retAddr 0, .retAddr 0, .retAddr 0, .retAddr 0, .retAddr 0] T S1 c2 m kc2 r F1 := fun c2 hc2 => by
    rcases p1 with ⟨q, e, e'⟩ | ⟨q, q1, e, e'⟩ | ⟨q, q1⟩
    · rw [e, e']; exact (best_m hm1 hf g1 g2 g3).1 q
    · rw [e, e']; exact (best_m hm1 hf g1 g2 g3).2.1 q q1
    · exact (best_m hm1 hf g1 g2 g3).2.2 q r F1 q1
  cases r with
  | inl w =>
    dsimp only at r1 v1
    obtain ⟨v, S2, r2, f2, m2, z1, z2⟩ := key c rfl
    rw [z1] at r2
    obtain ⟨f, hf1, hf2⟩ := ld_a (c := c) (S := S2) ha (by rw [f2 a (by omega)]; exact v1)
    refine ⟨S2, c, k, .int (zI 0), .int (zI w), fun Q hQ => ?_, ⟨F1, sA1, sB1, c1.keep (fun b h1 h2 => f2 b (by omega)), m2, fun j hj => by rw [f2 _ (by omega)]; exact hs1 j hj, ha, d1, d2⟩, by omega, Or.inl rfl⟩
    rw [el_L_law_951, el_L_law_952, el_L_law_953, el_L_law_955, el_L_law_956, el_L_law_957 (h := zh T S c) hs (hb 1 (by decide)), zh_cst, e1, el_L_law_958, el_L_law_959, el_L_law_961, el_L_law_962, el_L_law_963 (h := zh T S c) hs (hb 2 (by decide)), zh_cst, e2, el_L_law_964, el_L_law_965, el_L_law_967, el_L_law_968, el_L_law_969 (h := zh T S c) hs (hb 3 (by decide)), zh_cst, e3, el_L_law_970, el_L_law_971 r1 (by decide) rfl, tl_some, el_L_law_974, el_L_law_976, el_L_law_977, el_L_law_978, el_L_law_980, el_L_law_981, el_L_law_982 (h := zh T S1 c) hs (hb 1 (by decide)), zh_cst, e1, el_L_law_983, el_L_law_984, el_L_law_986, el_L_law_987, el_L_law_988 (h := zh T S1 c) hs (hb 2 (by decide)), zh_cst, e2, el_L_law_989, el_L_law_990, el_L_law_992, el_L_law_993, el_L_law_994 (h := zh T S1 c) hs (hb 3 (by decide)), zh_cst, e3, el_L_law_995 r2 (by decide) (zo_12 tm) rfl, tl_some, el_L_law_998, el_L_law_1000, el_L_law_1001 (m_thrown tm) (by decide) (zo_12 tm) rfl, tl_some, z2, el_L_law_1004, el_L_law_1006 ⟨by decide, by decide⟩, if_pos rfl, el_L_law_1011, el_L_law_1013 (by decide), if_neg (by decide), el_L_law_1016, el_L_law_1017, el_L_law_1018 hf1 (by decide), show (0 : Int).toNat = 0 from rfl, hf2, el_L_law_1019, el_L_law_1021, el_L_law_1022, lg_cmp_self, el_L_law_1023 (by decide), if_pos rfl, el_L_law_1028]
    exact hQ
  | inr E =>
    dsimp only at r1
    obtain ⟨v, S2, r2, f2, m2, z2⟩ := key (thc c) rfl
    have z2 : S2 m 1 = kc2 E := z2
    have hkr := kc2_r (E := E)
    refine ⟨S2, thc c, k, .int (zI (kc2 E)), .int (zI v), fun Q hQ => ?_, ⟨F1, sA1, sB1, c1.keep (fun b h1 h2 => f2 b (by omega)), m2, fun j hj => by rw [f2 _ (by omega)]; exact hs1 j hj, ha, d1, d2⟩, by omega, Or.inr rfl⟩
    rw [el_L_law_951, el_L_law_952, el_L_law_953, el_L_law_955, el_L_law_956, el_L_law_957 (h := zh T S c) hs (hb 1 (by decide)), zh_cst, e1, el_L_law_958, el_L_law_959, el_L_law_961, el_L_law_962, el_L_law_963 (h := zh T S c) hs (hb 2 (by decide)), zh_cst, e2, el_L_law_964, el_L_law_965, el_L_law_967, el_L_law_968, el_L_law_969 (h := zh T S c) hs (hb 3 (by decide)), zh_cst, e3, el_L_law_970, el_L_law_971 r1 (by decide) rfl, tl_some, el_L_law_974, el_L_law_976, el_L_law_977, el_L_law_978, el_L_law_980, el_L_law_981, el_L_law_982 (h := zh T S1 (thc c)) hs (hb 1 (by decide)), zh_cst, e1t, el_L_law_983, el_L_law_984, el_L_law_986, el_L_law_987, el_L_law_988 (h := zh T S1 (thc c)) hs (hb 2 (by decide)), zh_cst, e2t, el_L_law_989, el_L_law_990, el_L_law_992, el_L_law_993, el_L_law_994 (h := zh T S1 (thc c)) hs (hb 3 (by decide)), zh_cst, e3t, el_L_law_995 r2 (by decide) (zo_12 tm) rfl, tl_some, el_L_law_998, el_L_law_1000, el_L_law_1001 (m_thrown tm) (by decide) (zo_12 tm) rfl, tl_some, z2, el_L_law_1004, el_L_law_1006 ⟨by omega, by omega⟩, if_pos rfl, el_L_law_1011, el_L_law_1013 (by omega), if_pos (by omega), el_L_law_1028]
    exact hQ
theorem br_found (h : lwI T S c.2 x m a k) (hk : k + 1 ≤ 50000) (hC : tcx c.2) (hs : s = c.2.1.1) (hb : ∀ j : Int, 0 ≤ j ∧ j ≤ 5 → 0 ≤ i + j ∧ i + j < c.2.1.2.1 ∧ i + j ≤ 2147483647) : lwB T S c s x m a k i l5 l6 1031 := by
  obtain ⟨F, sA, sB, hc, hm, hsd, ha, d1, d2⟩ := h
  have hf := hc.fI
  have tx : T x = (11, 0) := hc.1.1.1
  have tm : T m = (12, 0) := hm.1.1
  obtain ⟨w1, g1, e1⟩ := sc_w (c.2.1.2.2 (i + 1).toNat)
  have e1t : (thc c).2.1.2.2 (i + 1).toNat = zI w1 := e1
  obtain ⟨r, S1, F1, sA1, sB1, r1, f1, v1, c1, p1⟩ := lw_found (o_found (c := c) hc  g1) ha tx (Or.inr (by omega)) (fun E F' hp => rsE_E hp.1.symm)
  have hm1 : mR T S1 m F := hm.keep hf (fun b h1 h2 => f1 b (by omega) (by omega))
  have hs1 : ∀ j, j < 4 → S1 (m + 1) j = (c.2.2.1 j : Nat) := fun j hj => by rw [f1 _ (by omega) (by omega)]; exact hsd j hj
  have key : ∀ c2 : pm_M × pm_C, c2.2 = c.2 → mopR 1 191 [.ref m, .int (zI w1)] T S1 c2 m kc1 r F1 := fun c2 hc2 => by
    rw [p1.1, p1.2]; exact found_m hm1 hf rfl g1
  cases r with
  | inl w =>
    dsimp only at r1 v1
    obtain ⟨v, S2, r2, f2, m2, z1, z2⟩ := key c rfl
    rw [z1] at r2
    obtain ⟨f, hf1, hf2⟩ := ld_a (c := c) (S := S2) ha (by rw [f2 a (by omega)]; exact v1)
    refine ⟨S2, c, k, .int (zI 0), .int (zI w), fun Q hQ => ?_, ⟨F1, sA1, sB1, c1.keep (fun b h1 h2 => f2 b (by omega)), m2, fun j hj => by rw [f2 _ (by omega)]; exact hs1 j hj, ha, d1, d2⟩, by omega, Or.inl rfl⟩
    rw [el_L_law_1031, el_L_law_1032, el_L_law_1033, el_L_law_1035, el_L_law_1036, el_L_law_1037 (h := zh T S c) hs (hb 1 (by decide)), zh_cst, e1, el_L_law_1038, el_L_law_1039 r1 (by decide) rfl, tl_some, el_L_law_1042, el_L_law_1044, el_L_law_1045, el_L_law_1046, el_L_law_1048, el_L_law_1049, el_L_law_1050 (h := zh T S1 c) hs (hb 1 (by decide)), zh_cst, e1, el_L_law_1051 r2 (by decide) (zo_12 tm) rfl, tl_some, el_L_law_1054, el_L_law_1056, el_L_law_1057 (m_thrown tm) (by decide) (zo_12 tm) rfl, tl_some, z2, el_L_law_1060, el_L_law_1062 ⟨by decide, by decide⟩, if_pos rfl, el_L_law_1067, el_L_law_1069 (by decide), if_neg (by decide), el_L_law_1072, el_L_law_1073, el_L_law_1074 hf1 (by decide), show (0 : Int).toNat = 0 from rfl, hf2, el_L_law_1075, el_L_law_1077, el_L_law_1078, lg_cmp_self, el_L_law_1079 (by decide), if_pos rfl, el_L_law_1084]
    exact hQ
  | inr E =>
    dsimp only at r1
    obtain ⟨v, S2, r2, f2, m2, z2⟩ := key (thc c) rfl
    have z2 : S2 m 1 = kc1 E := z2
    have hkr := kc1_r (E := E)
    refine ⟨S2, thc c, k, .int (zI (kc1 E)), .int (zI v), fun Q hQ => ?_, ⟨F1, sA1, sB1, c1.keep (fun b h1 h2 => f2 b (by omega)), m2, fun j hj => by rw [f2 _ (by omega)]; exact hs1 j hj, ha, d1, d2⟩, by omega, Or.inr rfl⟩
    rw [el_L_law_1031, el_L_law_1032, el_L_law_1033, el_L_law_1035, el_L_law_1036, el_L_law_1037 (h := zh T S c) hs (hb 1 (by decide)), zh_cst, e1, el_L_law_1038, el_L_law_1039 r1 (by decide) rfl, tl_some, el_L_law_1042, el_L_law_1044, el_L_law_1045, el_L_law_1046, el_L_law_1048, el_L_law_1049, el_L_law_1050 (h := zh T S1 (thc c)) hs (hb 1 (by decide)), zh_cst, e1t, el_L_law_1051 r2 (by decide) (zo_12 tm) rfl, tl_some, el_L_law_1054, el_L_law_1056, el_L_law_1057 (m_thrown tm) (by decide) (zo_12 tm) rfl, tl_some, z2, el_L_law_1060, el_L_law_1062 ⟨by omega, by omega⟩, if_pos rfl, el_L_law_1067, el_L_law_1069 (by omega), if_pos (by omega), el_L_law_1084]
    exact hQ
theorem br_mean (h : lwI T S c.2 x m a k) (hk : k + 1 ≤ 50000) (hC : tcx c.2) (hs : s = c.2.1.1) (hb : ∀ j : Int, 0 ≤ j ∧ j ≤ 5 → 0 ≤ i + j ∧ i + j < c.2.1.2.1 ∧ i + j ≤ 2147483647) : lwB T S c s x m a k i l5 l6 1087 := by
  obtain ⟨F, sA, sB, hc, hm, hsd, ha, d1, d2⟩ := h
  have hf := hc.fI
  have tx : T x = (11, 0) := hc.1.1.1
  have tm : T m = (12, 0) := hm.1.1
  obtain ⟨w1, g1, e1⟩ := sc_w (c.2.1.2.2 (i + 1).toNat)
  have e1t : (thc c).2.1.2.2 (i + 1).toNat = zI w1 := e1
  obtain ⟨w2, g2, e2⟩ := sc_w (c.2.1.2.2 (i + 2).toNat)
  have e2t : (thc c).2.1.2.2 (i + 2).toNat = zI w2 := e2
  obtain ⟨r, S1, F1, sA1, sB1, r1, f1, v1, c1, p1⟩ := lw_mean (o_mean (c := c) hc  g1 g2) ha tx (Or.inr (by omega)) (fun E F' hp => meanM_E hp.1.symm)
  have hm1 : mR T S1 m F := hm.keep hf (fun b h1 h2 => f1 b (by omega) (by omega))
  have hs1 : ∀ j, j < 4 → S1 (m + 1) j = (c.2.2.1 j : Nat) := fun j hj => by rw [f1 _ (by omega) (by omega)]; exact hsd j hj
  have key : ∀ c2 : pm_M × pm_C, c2.2 = c.2 → mopR 3 196 [.ref m, .int (zI w1), .int (zI w2), .retAddr 0, .retAddr 0, .retAddr 0] T S1 c2 m kc2 r F1 := fun c2 hc2 => by
    rw [p1.1, p1.2]; exact mean_m hm1 hf g1 g2
  cases r with
  | inl w =>
    dsimp only at r1 v1
    obtain ⟨v, S2, r2, f2, m2, z1, z2⟩ := key c rfl
    rw [z1] at r2
    obtain ⟨f, hf1, hf2⟩ := ld_a (c := c) (S := S2) ha (by rw [f2 a (by omega)]; exact v1)
    refine ⟨S2, c, k, .int (zI 0), .int (zI w), fun Q hQ => ?_, ⟨F1, sA1, sB1, c1.keep (fun b h1 h2 => f2 b (by omega)), m2, fun j hj => by rw [f2 _ (by omega)]; exact hs1 j hj, ha, d1, d2⟩, by omega, Or.inl rfl⟩
    rw [el_L_law_1087, el_L_law_1088, el_L_law_1089, el_L_law_1091, el_L_law_1092, el_L_law_1093 (h := zh T S c) hs (hb 1 (by decide)), zh_cst, e1, el_L_law_1094, el_L_law_1095, el_L_law_1097, el_L_law_1098, el_L_law_1099 (h := zh T S c) hs (hb 2 (by decide)), zh_cst, e2, el_L_law_1100, el_L_law_1101 r1 (by decide) rfl, tl_some, el_L_law_1104, el_L_law_1106, el_L_law_1107, el_L_law_1108, el_L_law_1110, el_L_law_1111, el_L_law_1112 (h := zh T S1 c) hs (hb 1 (by decide)), zh_cst, e1, el_L_law_1113, el_L_law_1114, el_L_law_1116, el_L_law_1117, el_L_law_1118 (h := zh T S1 c) hs (hb 2 (by decide)), zh_cst, e2, el_L_law_1119 r2 (by decide) (zo_12 tm) rfl, tl_some, el_L_law_1122, el_L_law_1124, el_L_law_1125 (m_thrown tm) (by decide) (zo_12 tm) rfl, tl_some, z2, el_L_law_1128, el_L_law_1130 ⟨by decide, by decide⟩, if_pos rfl, el_L_law_1135, el_L_law_1137 (by decide), if_neg (by decide), el_L_law_1140, el_L_law_1141, el_L_law_1142 hf1 (by decide), show (0 : Int).toNat = 0 from rfl, hf2, el_L_law_1143, el_L_law_1145, el_L_law_1146, lg_cmp_self, el_L_law_1147 (by decide), if_pos rfl, el_L_law_1152]
    exact hQ
  | inr E =>
    dsimp only at r1
    obtain ⟨v, S2, r2, f2, m2, z2⟩ := key (thc c) rfl
    have z2 : S2 m 1 = kc2 E := z2
    have hkr := kc2_r (E := E)
    refine ⟨S2, thc c, k, .int (zI (kc2 E)), .int (zI v), fun Q hQ => ?_, ⟨F1, sA1, sB1, c1.keep (fun b h1 h2 => f2 b (by omega)), m2, fun j hj => by rw [f2 _ (by omega)]; exact hs1 j hj, ha, d1, d2⟩, by omega, Or.inr rfl⟩
    rw [el_L_law_1087, el_L_law_1088, el_L_law_1089, el_L_law_1091, el_L_law_1092, el_L_law_1093 (h := zh T S c) hs (hb 1 (by decide)), zh_cst, e1, el_L_law_1094, el_L_law_1095, el_L_law_1097, el_L_law_1098, el_L_law_1099 (h := zh T S c) hs (hb 2 (by decide)), zh_cst, e2, el_L_law_1100, el_L_law_1101 r1 (by decide) rfl, tl_some, el_L_law_1104, el_L_law_1106, el_L_law_1107, el_L_law_1108, el_L_law_1110, el_L_law_1111, el_L_law_1112 (h := zh T S1 (thc c)) hs (hb 1 (by decide)), zh_cst, e1t, el_L_law_1113, el_L_law_1114, el_L_law_1116, el_L_law_1117, el_L_law_1118 (h := zh T S1 (thc c)) hs (hb 2 (by decide)), zh_cst, e2t, el_L_law_1119 r2 (by decide) (zo_12 tm) rfl, tl_some, el_L_law_1122, el_L_law_1124, el_L_law_1125 (m_thrown tm) (by decide) (zo_12 tm) rfl, tl_some, z2, el_L_law_1128, el_L_law_1130 ⟨by omega, by omega⟩, if_pos rfl, el_L_law_1135, el_L_law_1137 (by omega), if_pos (by omega), el_L_law_1152]
    exact hQ
theorem br_rows (h : lwI T S c.2 x m a k) (hk : k + 1 ≤ 50000) (hC : tcx c.2) (hs : s = c.2.1.1) (hb : ∀ j : Int, 0 ≤ j ∧ j ≤ 5 → 0 ≤ i + j ∧ i + j < c.2.1.2.1 ∧ i + j ≤ 2147483647) : lwB T S c s x m a k i l5 l6 1155 := by
  obtain ⟨F, sA, sB, hc, hm, hsd, ha, d1, d2⟩ := h
  have hf := hc.fI
  have tx : T x = (11, 0) := hc.1.1.1
  have tm : T m = (12, 0) := hm.1.1
  obtain ⟨w1, g1, e1⟩ := sc_w (c.2.1.2.2 (i + 1).toNat)
  have e1t : (thc c).2.1.2.2 (i + 1).toNat = zI w1 := e1
  obtain ⟨w2, g2, e2⟩ := sc_w (c.2.1.2.2 (i + 2).toNat)
  obtain ⟨b2, gb2, eb2⟩ := sc_b w2
  have e2t : (thc c).2.1.2.2 (i + 2).toNat = zI w2 := e2
  obtain ⟨r, S1, F1, sA1, sB1, r1, f1, v1, c1, p1⟩ := lw_rows (o_rows (c := c) hc  g1 gb2) ha tx (Or.inr (by omega)) (fun E F' hp => by rcases hp with ⟨-, z, -⟩ | ⟨-, ⟨-, z, -⟩ | ⟨-, z, -⟩⟩; exact Sum.inr.inj z; cases z; cases z)
  have hm1 : mR T S1 m F := hm.keep hf (fun b h1 h2 => f1 b (by omega) (by omega))
  have hs1 : ∀ j, j < 4 → S1 (m + 1) j = (c.2.2.1 j : Nat) := fun j hj => by rw [f1 _ (by omega) (by omega)]; exact hsd j hj
  have key : ∀ c2 : pm_M × pm_C, c2.2 = c.2 → mopR 5 194 [.ref m, .int (zI w1), .int (zI b2), .retAddr 0, .retAddr 0, .retAddr 0] T S1 c2 m kc1 r F1 := fun c2 hc2 => by
    rcases p1 with ⟨q, e, e'⟩ | ⟨q, q1⟩
    · rw [e, e']; exact (rows_m hm1 hf g1 gb2).1 q
    · exact (rows_m hm1 hf g1 gb2).2 q r F1 q1
  cases r with
  | inl w =>
    dsimp only at r1 v1
    obtain ⟨v, S2, r2, f2, m2, z1, z2⟩ := key c rfl
    rw [z1] at r2
    obtain ⟨f, hf1, hf2⟩ := ld_a (c := c) (S := S2) ha (by rw [f2 a (by omega)]; exact v1)
    refine ⟨S2, c, k, .int (zI 0), .int (zI w), fun Q hQ => ?_, ⟨F1, sA1, sB1, c1.keep (fun b h1 h2 => f2 b (by omega)), m2, fun j hj => by rw [f2 _ (by omega)]; exact hs1 j hj, ha, d1, d2⟩, by omega, Or.inl rfl⟩
    rw [el_L_law_1155, el_L_law_1156, el_L_law_1157, el_L_law_1159, el_L_law_1160, el_L_law_1161 (h := zh T S c) hs (hb 1 (by decide)), zh_cst, e1, el_L_law_1162, el_L_law_1163, el_L_law_1165, el_L_law_1166, el_L_law_1167 (h := zh T S c) hs (hb 2 (by decide)), zh_cst, e2, bz_1168 g2, eb2, el_L_law_1176, el_L_law_1177 r1 (by decide) rfl, tl_some, el_L_law_1180, el_L_law_1182, el_L_law_1183, el_L_law_1184, el_L_law_1186, el_L_law_1187, el_L_law_1188 (h := zh T S1 c) hs (hb 1 (by decide)), zh_cst, e1, el_L_law_1189, el_L_law_1190, el_L_law_1192, el_L_law_1193, el_L_law_1194 (h := zh T S1 c) hs (hb 2 (by decide)), zh_cst, e2, bz_1195 g2, eb2, el_L_law_1203 r2 (by decide) (zo_12 tm) rfl, tl_some, el_L_law_1206, el_L_law_1208, el_L_law_1209 (m_thrown tm) (by decide) (zo_12 tm) rfl, tl_some, z2, el_L_law_1212, el_L_law_1214 ⟨by decide, by decide⟩, if_pos rfl, el_L_law_1219, el_L_law_1221 (by decide), if_neg (by decide), el_L_law_1224, el_L_law_1225, el_L_law_1226 hf1 (by decide), show (0 : Int).toNat = 0 from rfl, hf2, el_L_law_1227, el_L_law_1229, el_L_law_1230, lg_cmp_self, el_L_law_1231 (by decide), if_pos rfl, el_L_law_1236]
    exact hQ
  | inr E =>
    dsimp only at r1
    obtain ⟨v, S2, r2, f2, m2, z2⟩ := key (thc c) rfl
    have z2 : S2 m 1 = kc1 E := z2
    have hkr := kc1_r (E := E)
    refine ⟨S2, thc c, k, .int (zI (kc1 E)), .int (zI v), fun Q hQ => ?_, ⟨F1, sA1, sB1, c1.keep (fun b h1 h2 => f2 b (by omega)), m2, fun j hj => by rw [f2 _ (by omega)]; exact hs1 j hj, ha, d1, d2⟩, by omega, Or.inr rfl⟩
    rw [el_L_law_1155, el_L_law_1156, el_L_law_1157, el_L_law_1159, el_L_law_1160, el_L_law_1161 (h := zh T S c) hs (hb 1 (by decide)), zh_cst, e1, el_L_law_1162, el_L_law_1163, el_L_law_1165, el_L_law_1166, el_L_law_1167 (h := zh T S c) hs (hb 2 (by decide)), zh_cst, e2, bz_1168 g2, eb2, el_L_law_1176, el_L_law_1177 r1 (by decide) rfl, tl_some, el_L_law_1180, el_L_law_1182, el_L_law_1183, el_L_law_1184, el_L_law_1186, el_L_law_1187, el_L_law_1188 (h := zh T S1 (thc c)) hs (hb 1 (by decide)), zh_cst, e1t, el_L_law_1189, el_L_law_1190, el_L_law_1192, el_L_law_1193, el_L_law_1194 (h := zh T S1 (thc c)) hs (hb 2 (by decide)), zh_cst, e2t, bz_1195 g2, eb2, el_L_law_1203 r2 (by decide) (zo_12 tm) rfl, tl_some, el_L_law_1206, el_L_law_1208, el_L_law_1209 (m_thrown tm) (by decide) (zo_12 tm) rfl, tl_some, z2, el_L_law_1212, el_L_law_1214 ⟨by omega, by omega⟩, if_pos rfl, el_L_law_1219, el_L_law_1221 (by omega), if_pos (by omega), el_L_law_1236]
    exact hQ
theorem br_evening (h : lwI T S c.2 x m a k) (hk : k + 1 ≤ 50000) (hC : tcx c.2) (hs : s = c.2.1.1) (hb : ∀ j : Int, 0 ≤ j ∧ j ≤ 5 → 0 ≤ i + j ∧ i + j < c.2.1.2.1 ∧ i + j ≤ 2147483647) : lwB T S c s x m a k i l5 l6 1239 := by
  obtain ⟨F, sA, sB, hc, hm, hsd, ha, d1, d2⟩ := h
  have hf := hc.fI
  have tx : T x = (11, 0) := hc.1.1.1
  have tm : T m = (12, 0) := hm.1.1
  obtain ⟨w1, g1, e1⟩ := sc_w (c.2.1.2.2 (i + 1).toNat)
  have e1t : (thc c).2.1.2.2 (i + 1).toNat = zI w1 := e1
  obtain ⟨r, S1, F1, sA1, sB1, r1, f1, v1, c1, p1⟩ := lw_evening (o_evening (c := c) hc  g1) ha tx (Or.inr (by omega)) (fun E F' hp => by rcases hp with ⟨-, z, -⟩ | ⟨-, z, -⟩; exact Sum.inr.inj z; cases z)
  have hm1 : mR T S1 m F := hm.keep hf (fun b h1 h2 => f1 b (by omega) (by omega))
  have hs1 : ∀ j, j < 4 → S1 (m + 1) j = (c.2.2.1 j : Nat) := fun j hj => by rw [f1 _ (by omega) (by omega)]; exact hsd j hj
  have key : ∀ c2 : pm_M × pm_C, c2.2 = c.2 → mopR 8 198 [.ref m, .int (zI w1), .retAddr 0, .retAddr 0, .retAddr 0] T S1 c2 m kc1 r F1 := fun c2 hc2 => by
    rcases p1 with ⟨q, e, e'⟩ | ⟨q, e, e'⟩
    · rw [e, e']; exact (evening_m hm1 hf g1).1 q
    · rw [e, e']; exact (evening_m hm1 hf g1).2 q
  cases r with
  | inl w =>
    dsimp only at r1 v1
    obtain ⟨v, S2, r2, f2, m2, z1, z2⟩ := key c rfl
    rw [z1] at r2
    obtain ⟨f, hf1, hf2⟩ := ld_a (c := c) (S := S2) ha (by rw [f2 a (by omega)]; exact v1)
    refine ⟨S2, c, k, .int (zI 0), .int (zI w), fun Q hQ => ?_, ⟨F1, sA1, sB1, c1.keep (fun b h1 h2 => f2 b (by omega)), m2, fun j hj => by rw [f2 _ (by omega)]; exact hs1 j hj, ha, d1, d2⟩, by omega, Or.inl rfl⟩
    rw [el_L_law_1239, el_L_law_1240, el_L_law_1241, el_L_law_1243, el_L_law_1244, el_L_law_1245 (h := zh T S c) hs (hb 1 (by decide)), zh_cst, e1, el_L_law_1246, el_L_law_1247 r1 (by decide) rfl, tl_some, el_L_law_1250, el_L_law_1252, el_L_law_1253, el_L_law_1254, el_L_law_1256, el_L_law_1257, el_L_law_1258 (h := zh T S1 c) hs (hb 1 (by decide)), zh_cst, e1, el_L_law_1259 r2 (by decide) (zo_12 tm) rfl, tl_some, el_L_law_1262, el_L_law_1264, el_L_law_1265 (m_thrown tm) (by decide) (zo_12 tm) rfl, tl_some, z2, el_L_law_1268, el_L_law_1270 ⟨by decide, by decide⟩, if_pos rfl, el_L_law_1275, el_L_law_1277 (by decide), if_neg (by decide), el_L_law_1280, el_L_law_1281, el_L_law_1282 hf1 (by decide), show (0 : Int).toNat = 0 from rfl, hf2, el_L_law_1283, el_L_law_1285, el_L_law_1286, lg_cmp_self, el_L_law_1287 (by decide), if_pos rfl, el_L_law_1292]
    exact hQ
  | inr E =>
    dsimp only at r1
    obtain ⟨v, S2, r2, f2, m2, z2⟩ := key (thc c) rfl
    have z2 : S2 m 1 = kc1 E := z2
    have hkr := kc1_r (E := E)
    refine ⟨S2, thc c, k, .int (zI (kc1 E)), .int (zI v), fun Q hQ => ?_, ⟨F1, sA1, sB1, c1.keep (fun b h1 h2 => f2 b (by omega)), m2, fun j hj => by rw [f2 _ (by omega)]; exact hs1 j hj, ha, d1, d2⟩, by omega, Or.inr rfl⟩
    rw [el_L_law_1239, el_L_law_1240, el_L_law_1241, el_L_law_1243, el_L_law_1244, el_L_law_1245 (h := zh T S c) hs (hb 1 (by decide)), zh_cst, e1, el_L_law_1246, el_L_law_1247 r1 (by decide) rfl, tl_some, el_L_law_1250, el_L_law_1252, el_L_law_1253, el_L_law_1254, el_L_law_1256, el_L_law_1257, el_L_law_1258 (h := zh T S1 (thc c)) hs (hb 1 (by decide)), zh_cst, e1t, el_L_law_1259 r2 (by decide) (zo_12 tm) rfl, tl_some, el_L_law_1262, el_L_law_1264, el_L_law_1265 (m_thrown tm) (by decide) (zo_12 tm) rfl, tl_some, z2, el_L_law_1268, el_L_law_1270 ⟨by omega, by omega⟩, if_pos rfl, el_L_law_1275, el_L_law_1277 (by omega), if_pos (by omega), el_L_law_1292]
    exact hQ
theorem br_trim (h : lwI T S c.2 x m a k) (hk : k + 1 ≤ 50000) (hC : tcx c.2) (hs : s = c.2.1.1) (hb : ∀ j : Int, 0 ≤ j ∧ j ≤ 5 → 0 ≤ i + j ∧ i + j < c.2.1.2.1 ∧ i + j ≤ 2147483647) : lwB T S c s x m a k i l5 l6 1295 := by
  obtain ⟨F, sA, sB, hc, hm, hsd, ha, d1, d2⟩ := h
  have hf := hc.fI
  have tx : T x = (11, 0) := hc.1.1.1
  have tm : T m = (12, 0) := hm.1.1
  obtain ⟨w1, g1, e1⟩ := sc_w (c.2.1.2.2 (i + 1).toNat)
  have e1t : (thc c).2.1.2.2 (i + 1).toNat = zI w1 := e1
  obtain ⟨r, S1, F1, sA1, sB1, r1, f1, v1, c1, p1⟩ := lw_trim (o_trim (c := c) hc  g1) ha tx (Or.inr (by omega)) (fun E F' hp => rsE_E hp.1.symm)
  have hm1 : mR T S1 m F := hm.keep hf (fun b h1 h2 => f1 b (by omega) (by omega))
  have hs1 : ∀ j, j < 4 → S1 (m + 1) j = (c.2.2.1 j : Nat) := fun j hj => by rw [f1 _ (by omega) (by omega)]; exact hsd j hj
  have key : ∀ c2 : pm_M × pm_C, c2.2 = c.2 → mopR 1 199 [.ref m, .int (zI w1)] T S1 c2 m kc1 r F1 := fun c2 hc2 => by
    rw [p1.1, p1.2]; exact trim_m hm1 hf rfl g1
  cases r with
  | inl w =>
    dsimp only at r1 v1
    obtain ⟨v, S2, r2, f2, m2, z1, z2⟩ := key c rfl
    rw [z1] at r2
    obtain ⟨f, hf1, hf2⟩ := ld_a (c := c) (S := S2) ha (by rw [f2 a (by omega)]; exact v1)
    refine ⟨S2, c, k, .int (zI 0), .int (zI w), fun Q hQ => ?_, ⟨F1, sA1, sB1, c1.keep (fun b h1 h2 => f2 b (by omega)), m2, fun j hj => by rw [f2 _ (by omega)]; exact hs1 j hj, ha, d1, d2⟩, by omega, Or.inl rfl⟩
    rw [el_L_law_1295, el_L_law_1296, el_L_law_1297, el_L_law_1299, el_L_law_1300, el_L_law_1301 (h := zh T S c) hs (hb 1 (by decide)), zh_cst, e1, el_L_law_1302, el_L_law_1303 r1 (by decide) rfl, tl_some, el_L_law_1306, el_L_law_1308, el_L_law_1309, el_L_law_1310, el_L_law_1312, el_L_law_1313, el_L_law_1314 (h := zh T S1 c) hs (hb 1 (by decide)), zh_cst, e1, el_L_law_1315 r2 (by decide) (zo_12 tm) rfl, tl_some, el_L_law_1318, el_L_law_1320, el_L_law_1321 (m_thrown tm) (by decide) (zo_12 tm) rfl, tl_some, z2, el_L_law_1324, el_L_law_1326 ⟨by decide, by decide⟩, if_pos rfl, el_L_law_1331, el_L_law_1333 (by decide), if_neg (by decide), el_L_law_1336, el_L_law_1337, el_L_law_1338 hf1 (by decide), show (0 : Int).toNat = 0 from rfl, hf2, el_L_law_1339, el_L_law_1341, el_L_law_1342, lg_cmp_self, el_L_law_1343 (by decide), if_pos rfl, el_L_law_1348]
    exact hQ
  | inr E =>
    dsimp only at r1
    obtain ⟨v, S2, r2, f2, m2, z2⟩ := key (thc c) rfl
    have z2 : S2 m 1 = kc1 E := z2
    have hkr := kc1_r (E := E)
    refine ⟨S2, thc c, k, .int (zI (kc1 E)), .int (zI v), fun Q hQ => ?_, ⟨F1, sA1, sB1, c1.keep (fun b h1 h2 => f2 b (by omega)), m2, fun j hj => by rw [f2 _ (by omega)]; exact hs1 j hj, ha, d1, d2⟩, by omega, Or.inr rfl⟩
    rw [el_L_law_1295, el_L_law_1296, el_L_law_1297, el_L_law_1299, el_L_law_1300, el_L_law_1301 (h := zh T S c) hs (hb 1 (by decide)), zh_cst, e1, el_L_law_1302, el_L_law_1303 r1 (by decide) rfl, tl_some, el_L_law_1306, el_L_law_1308, el_L_law_1309, el_L_law_1310, el_L_law_1312, el_L_law_1313, el_L_law_1314 (h := zh T S1 (thc c)) hs (hb 1 (by decide)), zh_cst, e1t, el_L_law_1315 r2 (by decide) (zo_12 tm) rfl, tl_some, el_L_law_1318, el_L_law_1320, el_L_law_1321 (m_thrown tm) (by decide) (zo_12 tm) rfl, tl_some, z2, el_L_law_1324, el_L_law_1326 ⟨by omega, by omega⟩, if_pos rfl, el_L_law_1331, el_L_law_1333 (by omega), if_pos (by omega), el_L_law_1348]
    exact hQ
theorem br_taught (h : lwI T S c.2 x m a k) (hk : k + 1 ≤ 50000) (hC : tcx c.2) (hs : s = c.2.1.1) (hb : ∀ j : Int, 0 ≤ j ∧ j ≤ 5 → 0 ≤ i + j ∧ i + j < c.2.1.2.1 ∧ i + j ≤ 2147483647) : lwB T S c s x m a k i l5 l6 1412 := by
  obtain ⟨F, sA, sB, hc, hm, hsd, ha, d1, d2⟩ := h
  have hf := hc.fI
  have tx : T x = (11, 0) := hc.1.1.1
  have tm : T m = (12, 0) := hm.1.1
  obtain ⟨w1, g1, e1⟩ := sc_w (c.2.1.2.2 (i + 1).toNat)
  have e1t : (thc c).2.1.2.2 (i + 1).toNat = zI w1 := e1
  obtain ⟨r, S1, F1, sA1, sB1, r1, f1, v1, c1, p1⟩ := lw_taught (o_taught (c := c) hc  g1) ha tx (Or.inr (by omega)) (fun E F' hp => rsE_E hp.1.symm)
  have hm1 : mR T S1 m F := hm.keep hf (fun b h1 h2 => f1 b (by omega) (by omega))
  have hs1 : ∀ j, j < 4 → S1 (m + 1) j = (c.2.2.1 j : Nat) := fun j hj => by rw [f1 _ (by omega) (by omega)]; exact hsd j hj
  have key : ∀ c2 : pm_M × pm_C, c2.2 = c.2 → mopR 3 204 [.ref m, .int (zI w1), .retAddr 0, .retAddr 0] T S1 c2 m kc1 r F1 := fun c2 hc2 => by
    rw [p1.1, p1.2]; exact taught_m hm1 hf rfl g1
  cases r with
  | inl w =>
    dsimp only at r1 v1
    obtain ⟨v, S2, r2, f2, m2, z1, z2⟩ := key c rfl
    rw [z1] at r2
    obtain ⟨f, hf1, hf2⟩ := ld_a (c := c) (S := S2) ha (by rw [f2 a (by omega)]; exact v1)
    refine ⟨S2, c, k, .int (zI 0), .int (zI w), fun Q hQ => ?_, ⟨F1, sA1, sB1, c1.keep (fun b h1 h2 => f2 b (by omega)), m2, fun j hj => by rw [f2 _ (by omega)]; exact hs1 j hj, ha, d1, d2⟩, by omega, Or.inl rfl⟩
    rw [el_L_law_1412, el_L_law_1413, el_L_law_1414, el_L_law_1416, el_L_law_1417, el_L_law_1418 (h := zh T S c) hs (hb 1 (by decide)), zh_cst, e1, el_L_law_1419, el_L_law_1420 r1 (by decide) rfl, tl_some, el_L_law_1423, el_L_law_1425, el_L_law_1426, el_L_law_1427, el_L_law_1429, el_L_law_1430, el_L_law_1431 (h := zh T S1 c) hs (hb 1 (by decide)), zh_cst, e1, el_L_law_1432 r2 (by decide) (zo_12 tm) rfl, tl_some, el_L_law_1435, el_L_law_1437, el_L_law_1438 (m_thrown tm) (by decide) (zo_12 tm) rfl, tl_some, z2, el_L_law_1441, el_L_law_1443 ⟨by decide, by decide⟩, if_pos rfl, el_L_law_1448, el_L_law_1450 (by decide), if_neg (by decide), el_L_law_1453, el_L_law_1454, el_L_law_1455 hf1 (by decide), show (0 : Int).toNat = 0 from rfl, hf2, el_L_law_1456, el_L_law_1458, el_L_law_1459, lg_cmp_self, el_L_law_1460 (by decide), if_pos rfl, el_L_law_1465]
    exact hQ
  | inr E =>
    dsimp only at r1
    obtain ⟨v, S2, r2, f2, m2, z2⟩ := key (thc c) rfl
    have z2 : S2 m 1 = kc1 E := z2
    have hkr := kc1_r (E := E)
    refine ⟨S2, thc c, k, .int (zI (kc1 E)), .int (zI v), fun Q hQ => ?_, ⟨F1, sA1, sB1, c1.keep (fun b h1 h2 => f2 b (by omega)), m2, fun j hj => by rw [f2 _ (by omega)]; exact hs1 j hj, ha, d1, d2⟩, by omega, Or.inr rfl⟩
    rw [el_L_law_1412, el_L_law_1413, el_L_law_1414, el_L_law_1416, el_L_law_1417, el_L_law_1418 (h := zh T S c) hs (hb 1 (by decide)), zh_cst, e1, el_L_law_1419, el_L_law_1420 r1 (by decide) rfl, tl_some, el_L_law_1423, el_L_law_1425, el_L_law_1426, el_L_law_1427, el_L_law_1429, el_L_law_1430, el_L_law_1431 (h := zh T S1 (thc c)) hs (hb 1 (by decide)), zh_cst, e1t, el_L_law_1432 r2 (by decide) (zo_12 tm) rfl, tl_some, el_L_law_1435, el_L_law_1437, el_L_law_1438 (m_thrown tm) (by decide) (zo_12 tm) rfl, tl_some, z2, el_L_law_1441, el_L_law_1443 ⟨by omega, by omega⟩, if_pos rfl, el_L_law_1448, el_L_law_1450 (by omega), if_pos (by omega), el_L_law_1465]
    exact hQ
end LAW
