/-! THE LAW, 2: the helpers -/
/-- a helper's call: what comes of it -/
def lwR (d tm : Nat) (ls : List Value) (T : Nat → Nat × Nat) (S : Nat → Nat → Int) (c : pm_M × pm_C) (x a : Nat) (k : Int) (kc : String → Int) (P : (Int ⊕ String) → fS → Prop) : Prop :=
  ∃ (r : Int ⊕ String) (S' : Nat → Nat → Int) (F' : fS) (sA sB : Nat), px_R d tm ls (zh T S c) (.inl (some (.int (zI (match r with | .inl _ => 0 | .inr E => kc E))))) (zh T S' (match r with | .inl _ => c | .inr _ => thc c)) ∧ (∀ b, b ≠ a → (b < x ∨ x + 148 ≤ b) → S' b = S b) ∧ (match r with | .inl v => S' a 0 = (zI v).toInt | .inr _ => True) ∧ cR T S' x sA sB k F' ∧ P r F'
theorem cR.off {T : Nat → Nat × Nat} {S : Nat → Nat → Int} {x sA sB a : Nat} {k : Int} {F : fS} {g : Nat → Int} (h : cR T S x sA sB k F) (ha : a < x ∨ x + 148 ≤ a) : cR T (upS S a g) x sA sB k F := h.eq (fun b h1 h2 _ _ _ _ _ => upS_ne (by omega)) ⟨by rw [upS_ne (by omega)], by rw [upS_ne (by omega)]⟩
section LAW
variable {T : Nat → Nat × Nat} {S : Nat → Nat → Int} {c : pm_M × pm_C} {x a : Nat} {k : Int} {P : (Int ⊕ String) → fS → Prop}
theorem lw_school {d : Nat} {y0 : Int} (h : opR d 103 [.ref x, .int (zI y0), .retAddr 0] T S c x k P) (ha : T a = (23, 1)) (hx : T x = (11, 0)) (hax : a < x ∨ x + 148 ≤ a) (hE : ∀ E F', P (.inr E) F' → E = iae) : lwR (d + 1) 208 [.ref x, .int (zI y0), .ref a, .retAddr 0] T S c x a k kc1 P := by
  obtain ⟨r, S', F', sA, sB, h, hf, hc, hp⟩ := h
  cases r with
  | inl v =>
    refine ⟨.inl v, upS S' a (upz (S' a) 0 (zI v).toInt), F', sA, sB, px_ofQ fun Q hQ => ?_, fun b h1 h2 => by rw [upS_ne h1]; exact hf b h2, by show upS S' a _ a 0 = _; rw [upS_eq, upz_eq], hc.off hax, hp⟩
    rw [el_L_school_0, el_L_school_1, el_L_school_2, el_L_school_3, el_L_school_4 h (Nat.le_refl _) (zo_11 hx) rfl]
    rw [show (some (Value.int (zI v))).toList ++ [Value.int (zI 0), Value.ref a] = [Value.int (zI v), Value.int (zI 0), Value.ref a] from rfl, el_L_school_7]
    rw [el_L_school_8 (n := 1) (f := fun j => Int64.ofInt (S' a j)) (by rw [zh_1, ha]; rfl) (by decide)]
    rw [show (0 : Int).toNat = 0 from rfl, zp_23 ha, el_L_school_9, el_L_school_15, el_L_school_16]
    exact hQ
  | inr E =>
    have hp0 := hp
    rcases hE E F' hp with rfl
    · refine ⟨.inr iae, S', F', sA, sB, px_ofQ fun Q hQ => ?_, fun b h1 h2 => hf b h2, trivial, hc, hp⟩
      rw [el_L_school_0, el_L_school_1, el_L_school_2, el_L_school_3, el_L_school_4x h (Nat.le_refl _) (zo_11 hx) rfl]
      show px_Ev _ 208 13 [.ref x, .int (zI y0), .ref a, .retAddr 0] [] _ Q
      rw [el_L_school_13, el_L_school_14]
      exact hQ
theorem lw_row {d : Nat} {y0 : Int} (h : opR d 104 [.ref x, .int (zI y0), .retAddr 0] T S c x k P) (ha : T a = (23, 1)) (hx : T x = (11, 0)) (hax : a < x ∨ x + 148 ≤ a) (hE : ∀ E F', P (.inr E) F' → E = iae) : lwR (d + 1) 209 [.ref x, .int (zI y0), .ref a, .retAddr 0] T S c x a k kc1 P := by
  obtain ⟨r, S', F', sA, sB, h, hf, hc, hp⟩ := h
  cases r with
  | inl v =>
    refine ⟨.inl v, upS S' a (upz (S' a) 0 (zI v).toInt), F', sA, sB, px_ofQ fun Q hQ => ?_, fun b h1 h2 => by rw [upS_ne h1]; exact hf b h2, by show upS S' a _ a 0 = _; rw [upS_eq, upz_eq], hc.off hax, hp⟩
    rw [el_L_row_0, el_L_row_1, el_L_row_2, el_L_row_3, el_L_row_4 h (Nat.le_refl _) (zo_11 hx) rfl]
    rw [show (some (Value.int (zI v))).toList ++ [Value.int (zI 0), Value.ref a] = [Value.int (zI v), Value.int (zI 0), Value.ref a] from rfl, el_L_row_7]
    rw [el_L_row_8 (n := 1) (f := fun j => Int64.ofInt (S' a j)) (by rw [zh_1, ha]; rfl) (by decide)]
    rw [show (0 : Int).toNat = 0 from rfl, zp_23 ha, el_L_row_9, el_L_row_15, el_L_row_16]
    exact hQ
  | inr E =>
    have hp0 := hp
    rcases hE E F' hp with rfl
    · refine ⟨.inr iae, S', F', sA, sB, px_ofQ fun Q hQ => ?_, fun b h1 h2 => hf b h2, trivial, hc, hp⟩
      rw [el_L_row_0, el_L_row_1, el_L_row_2, el_L_row_3, el_L_row_4x h (Nat.le_refl _) (zo_11 hx) rfl]
      show px_Ev _ 209 13 [.ref x, .int (zI y0), .ref a, .retAddr 0] [] _ Q
      rw [el_L_row_13, el_L_row_14]
      exact hQ
theorem lw_count {d : Nat} {y0 : Int} (h : opR d 106 [.ref x, .int (zI y0)] T S c x k P) (ha : T a = (23, 1)) (hx : T x = (11, 0)) (hax : a < x ∨ x + 148 ≤ a) (hE : ∀ E F', P (.inr E) F' → E = nse) : lwR (d + 1) 210 [.ref x, .int (zI y0), .ref a, .retAddr 0] T S c x a k kc1 P := by
  obtain ⟨r, S', F', sA, sB, h, hf, hc, hp⟩ := h
  cases r with
  | inl v =>
    refine ⟨.inl v, upS S' a (upz (S' a) 0 (zI v).toInt), F', sA, sB, px_ofQ fun Q hQ => ?_, fun b h1 h2 => by rw [upS_ne h1]; exact hf b h2, by show upS S' a _ a 0 = _; rw [upS_eq, upz_eq], hc.off hax, hp⟩
    rw [el_L_count_0, el_L_count_1, el_L_count_2, el_L_count_3, el_L_count_4 h (Nat.le_refl _) (zo_11 hx) rfl]
    rw [show (some (Value.int (zI v))).toList ++ [Value.int (zI 0), Value.ref a] = [Value.int (zI v), Value.int (zI 0), Value.ref a] from rfl, el_L_count_7]
    rw [el_L_count_8 (n := 1) (f := fun j => Int64.ofInt (S' a j)) (by rw [zh_1, ha]; rfl) (by decide)]
    rw [show (0 : Int).toNat = 0 from rfl, zp_23 ha, el_L_count_9, el_L_count_15, el_L_count_16]
    exact hQ
  | inr E =>
    have hp0 := hp
    rcases hE E F' hp with rfl
    · refine ⟨.inr nse, S', F', sA, sB, px_ofQ fun Q hQ => ?_, fun b h1 h2 => hf b h2, trivial, hc, hp⟩
      rw [el_L_count_0, el_L_count_1, el_L_count_2, el_L_count_3, el_L_count_4x h (Nat.le_refl _) (zo_11 hx) rfl]
      show px_Ev _ 210 13 [.ref x, .int (zI y0), .ref a, .retAddr 0] [] _ Q
      rw [el_L_count_13, el_L_count_14]
      exact hQ
theorem lw_table {d : Nat} {y0 y1 : Int} (h : opR d 107 [.ref x, .int (zI y0), .int (zI y1)] T S c x k P) (ha : T a = (23, 1)) (hx : T x = (11, 0)) (hax : a < x ∨ x + 148 ≤ a) (hE : ∀ E F', P (.inr E) F' → E = nse) : lwR (d + 1) 211 [.ref x, .int (zI y0), .int (zI y1), .ref a, .retAddr 0] T S c x a k kc1 P := by
  obtain ⟨r, S', F', sA, sB, h, hf, hc, hp⟩ := h
  cases r with
  | inl v =>
    refine ⟨.inl v, upS S' a (upz (S' a) 0 (zI v).toInt), F', sA, sB, px_ofQ fun Q hQ => ?_, fun b h1 h2 => by rw [upS_ne h1]; exact hf b h2, by show upS S' a _ a 0 = _; rw [upS_eq, upz_eq], hc.off hax, hp⟩
    rw [el_L_table_0, el_L_table_1, el_L_table_2, el_L_table_3, el_L_table_4, el_L_table_5 h (Nat.le_refl _) (zo_11 hx) rfl]
    rw [show (some (Value.int (zI v))).toList ++ [Value.int (zI 0), Value.ref a] = [Value.int (zI v), Value.int (zI 0), Value.ref a] from rfl, el_L_table_8]
    rw [el_L_table_9 (n := 1) (f := fun j => Int64.ofInt (S' a j)) (by rw [zh_1, ha]; rfl) (by decide)]
    rw [show (0 : Int).toNat = 0 from rfl, zp_23 ha, el_L_table_10, el_L_table_17, el_L_table_18]
    exact hQ
  | inr E =>
    have hp0 := hp
    rcases hE E F' hp with rfl
    · refine ⟨.inr nse, S', F', sA, sB, px_ofQ fun Q hQ => ?_, fun b h1 h2 => hf b h2, trivial, hc, hp⟩
      rw [el_L_table_0, el_L_table_1, el_L_table_2, el_L_table_3, el_L_table_4, el_L_table_5x h (Nat.le_refl _) (zo_11 hx) rfl]
      show px_Ev _ 211 15 [.ref x, .int (zI y0), .int (zI y1), .ref a, .retAddr 0] [] _ Q
      rw [el_L_table_15, el_L_table_16]
      exact hQ
theorem lw_fold {d : Nat} {y0 y1 : Int} (h : opR d 108 [.ref x, .int (zI y0), .int (zI y1)] T S c x k P) (ha : T a = (23, 1)) (hx : T x = (11, 0)) (hax : a < x ∨ x + 148 ≤ a) (hE : ∀ E F', P (.inr E) F' → E = nse) : lwR (d + 1) 212 [.ref x, .int (zI y0), .int (zI y1), .ref a, .retAddr 0] T S c x a k kc1 P := by
  obtain ⟨r, S', F', sA, sB, h, hf, hc, hp⟩ := h
  cases r with
  | inl v =>
    refine ⟨.inl v, upS S' a (upz (S' a) 0 (zI v).toInt), F', sA, sB, px_ofQ fun Q hQ => ?_, fun b h1 h2 => by rw [upS_ne h1]; exact hf b h2, by show upS S' a _ a 0 = _; rw [upS_eq, upz_eq], hc.off hax, hp⟩
    rw [el_L_fold_0, el_L_fold_1, el_L_fold_2, el_L_fold_3, el_L_fold_4, el_L_fold_5 h (Nat.le_refl _) (zo_11 hx) rfl]
    rw [show (some (Value.int (zI v))).toList ++ [Value.int (zI 0), Value.ref a] = [Value.int (zI v), Value.int (zI 0), Value.ref a] from rfl, el_L_fold_8]
    rw [el_L_fold_9 (n := 1) (f := fun j => Int64.ofInt (S' a j)) (by rw [zh_1, ha]; rfl) (by decide)]
    rw [show (0 : Int).toNat = 0 from rfl, zp_23 ha, el_L_fold_10, el_L_fold_17, el_L_fold_18]
    exact hQ
  | inr E =>
    have hp0 := hp
    rcases hE E F' hp with rfl
    · refine ⟨.inr nse, S', F', sA, sB, px_ofQ fun Q hQ => ?_, fun b h1 h2 => hf b h2, trivial, hc, hp⟩
      rw [el_L_fold_0, el_L_fold_1, el_L_fold_2, el_L_fold_3, el_L_fold_4, el_L_fold_5x h (Nat.le_refl _) (zo_11 hx) rfl]
      show px_Ev _ 212 15 [.ref x, .int (zI y0), .int (zI y1), .ref a, .retAddr 0] [] _ Q
      rw [el_L_fold_15, el_L_fold_16]
      exact hQ
theorem lw_layer {d : Nat} {y0 y1 y2 : Int} (h : opR d 110 [.ref x, .int (zI y0), .int (zI y1), .int (zI y2), .retAddr 0] T S c x k P) (ha : T a = (23, 1)) (hx : T x = (11, 0)) (hax : a < x ∨ x + 148 ≤ a) (hE : ∀ E F', P (.inr E) F' → E = nse) : lwR (d + 1) 213 [.ref x, .int (zI y0), .int (zI y1), .int (zI y2), .ref a, .retAddr 0] T S c x a k kc1 P := by
  obtain ⟨r, S', F', sA, sB, h, hf, hc, hp⟩ := h
  cases r with
  | inl v =>
    refine ⟨.inl v, upS S' a (upz (S' a) 0 (zI v).toInt), F', sA, sB, px_ofQ fun Q hQ => ?_, fun b h1 h2 => by rw [upS_ne h1]; exact hf b h2, by show upS S' a _ a 0 = _; rw [upS_eq, upz_eq], hc.off hax, hp⟩
    rw [el_L_layer_0, el_L_layer_2, el_L_layer_3, el_L_layer_4, el_L_layer_5, el_L_layer_6, el_L_layer_7 h (Nat.le_refl _) (zo_11 hx) rfl]
    rw [show (some (Value.int (zI v))).toList ++ [Value.int (zI 0), Value.ref a] = [Value.int (zI v), Value.int (zI 0), Value.ref a] from rfl, el_L_layer_10]
    rw [el_L_layer_11 (n := 1) (f := fun j => Int64.ofInt (S' a j)) (by rw [zh_1, ha]; rfl) (by decide)]
    rw [show (0 : Int).toNat = 0 from rfl, zp_23 ha, el_L_layer_12, el_L_layer_19, el_L_layer_20]
    exact hQ
  | inr E =>
    have hp0 := hp
    rcases hE E F' hp with rfl
    · refine ⟨.inr nse, S', F', sA, sB, px_ofQ fun Q hQ => ?_, fun b h1 h2 => hf b h2, trivial, hc, hp⟩
      rw [el_L_layer_0, el_L_layer_2, el_L_layer_3, el_L_layer_4, el_L_layer_5, el_L_layer_6, el_L_layer_7x h (Nat.le_refl _) (zo_11 hx) rfl]
      show px_Ev _ 213 17 [.ref x, .int (zI y0), .int (zI y1), .int (zI y2), .ref a, .retAddr 0] [] _ Q
      rw [el_L_layer_17, el_L_layer_18]
      exact hQ
theorem lw_crease {d : Nat} {y0 y1 y2 : Int} (h : opR d 111 [.ref x, .int (zI y0), .int (zI y1), .int (zI y2), .retAddr 0, .retAddr 0] T S c x k P) (ha : T a = (23, 1)) (hx : T x = (11, 0)) (hax : a < x ∨ x + 148 ≤ a) (hE : ∀ E F', P (.inr E) F' → E = nse) : lwR (d + 1) 214 [.ref x, .int (zI y0), .int (zI y1), .int (zI y2), .ref a, .retAddr 0] T S c x a k kc1 P := by
  obtain ⟨r, S', F', sA, sB, h, hf, hc, hp⟩ := h
  cases r with
  | inl v =>
    refine ⟨.inl v, upS S' a (upz (S' a) 0 (zI v).toInt), F', sA, sB, px_ofQ fun Q hQ => ?_, fun b h1 h2 => by rw [upS_ne h1]; exact hf b h2, by show upS S' a _ a 0 = _; rw [upS_eq, upz_eq], hc.off hax, hp⟩
    rw [el_L_crease_0, el_L_crease_2, el_L_crease_3, el_L_crease_4, el_L_crease_5, el_L_crease_6, el_L_crease_7 h (Nat.le_refl _) (zo_11 hx) rfl]
    rw [show (some (Value.int (zI v))).toList ++ [Value.int (zI 0), Value.ref a] = [Value.int (zI v), Value.int (zI 0), Value.ref a] from rfl, el_L_crease_10]
    rw [el_L_crease_11 (n := 1) (f := fun j => Int64.ofInt (S' a j)) (by rw [zh_1, ha]; rfl) (by decide)]
    rw [show (0 : Int).toNat = 0 from rfl, zp_23 ha, el_L_crease_12, el_L_crease_19, el_L_crease_20]
    exact hQ
  | inr E =>
    have hp0 := hp
    rcases hE E F' hp with rfl
    · refine ⟨.inr nse, S', F', sA, sB, px_ofQ fun Q hQ => ?_, fun b h1 h2 => hf b h2, trivial, hc, hp⟩
      rw [el_L_crease_0, el_L_crease_2, el_L_crease_3, el_L_crease_4, el_L_crease_5, el_L_crease_6, el_L_crease_7x h (Nat.le_refl _) (zo_11 hx) rfl]
      show px_Ev _ 214 17 [.ref x, .int (zI y0), .int (zI y1), .int (zI y2), .ref a, .retAddr 0] [] _ Q
      rw [el_L_crease_17, el_L_crease_18]
      exact hQ
theorem lw_flight {d : Nat} {y0 y1 y2 y3 : Int} (h : opR d 112 [.ref x, .int (zI y0), .int (zI y1), .int (zI y2), .int (zI y3)] T S c x k P) (ha : T a = (23, 1)) (hx : T x = (11, 0)) (hax : a < x ∨ x + 148 ≤ a) (hE : ∀ E F', P (.inr E) F' → E = nse ∨ E = iae) : lwR (d + 1) 215 [.ref x, .int (zI y0), .int (zI y1), .int (zI y2), .int (zI y3), .ref a, .retAddr 0] T S c x a k kc2 P := by
  obtain ⟨r, S', F', sA, sB, h, hf, hc, hp⟩ := h
  cases r with
  | inl v =>
    refine ⟨.inl v, upS S' a (upz (S' a) 0 (zI v).toInt), F', sA, sB, px_ofQ fun Q hQ => ?_, fun b h1 h2 => by rw [upS_ne h1]; exact hf b h2, by show upS S' a _ a 0 = _; rw [upS_eq, upz_eq], hc.off hax, hp⟩
    rw [el_L_flight_0, el_L_flight_2, el_L_flight_3, el_L_flight_4, el_L_flight_5, el_L_flight_6, el_L_flight_7, el_L_flight_9 h (Nat.le_refl _) (zo_11 hx) rfl]
    rw [show (some (Value.int (zI v))).toList ++ [Value.int (zI 0), Value.ref a] = [Value.int (zI v), Value.int (zI 0), Value.ref a] from rfl, el_L_flight_12]
    rw [el_L_flight_13 (n := 1) (f := fun j => Int64.ofInt (S' a j)) (by rw [zh_1, ha]; rfl) (by decide)]
    rw [show (0 : Int).toNat = 0 from rfl, zp_23 ha, el_L_flight_14, el_L_flight_25, el_L_flight_26]
    exact hQ
  | inr E =>
    have hp0 := hp
    rcases hE E F' hp with rfl | rfl
    · refine ⟨.inr nse, S', F', sA, sB, px_ofQ fun Q hQ => ?_, fun b h1 h2 => hf b h2, trivial, hc, hp⟩
      rw [el_L_flight_0, el_L_flight_2, el_L_flight_3, el_L_flight_4, el_L_flight_5, el_L_flight_6, el_L_flight_7, el_L_flight_9x h (Nat.le_refl _) (zo_11 hx) rfl]
      show px_Ev _ 215 19 [.ref x, .int (zI y0), .int (zI y1), .int (zI y2), .int (zI y3), .ref a, .retAddr 0] [] _ Q
      rw [el_L_flight_19, el_L_flight_20]
      exact hQ
    · refine ⟨.inr iae, S', F', sA, sB, px_ofQ fun Q hQ => ?_, fun b h1 h2 => hf b h2, trivial, hc, hp⟩
      rw [el_L_flight_0, el_L_flight_2, el_L_flight_3, el_L_flight_4, el_L_flight_5, el_L_flight_6, el_L_flight_7, el_L_flight_9x h (Nat.le_refl _) (zo_11 hx) rfl]
      show px_Ev _ 215 23 [.ref x, .int (zI y0), .int (zI y1), .int (zI y2), .int (zI y3), .ref a, .retAddr 0] [] _ Q
      rw [el_L_flight_23, el_L_flight_24]
      exact hQ
theorem lw_step {d : Nat} {y0 y1 y2 y3 y4 : Int} (h : opR d 113 [.ref x, .int (zI y0), .int (zI y1), .int (zI y2), .int (zI y3), .int (zI y4)] T S c x k P) (ha : T a = (23, 1)) (hx : T x = (11, 0)) (hax : a < x ∨ x + 148 ≤ a) (hE : ∀ E F', P (.inr E) F' → E = nse ∨ E = iae) : lwR (d + 1) 216 [.ref x, .int (zI y0), .int (zI y1), .int (zI y2), .int (zI y3), .int (zI y4), .ref a, .retAddr 0] T S c x a k kc2 P := by
  obtain ⟨r, S', F', sA, sB, h, hf, hc, hp⟩ := h
  cases r with
  | inl v =>
    refine ⟨.inl v, upS S' a (upz (S' a) 0 (zI v).toInt), F', sA, sB, px_ofQ fun Q hQ => ?_, fun b h1 h2 => by rw [upS_ne h1]; exact hf b h2, by show upS S' a _ a 0 = _; rw [upS_eq, upz_eq], hc.off hax, hp⟩
    rw [el_L_step_0, el_L_step_2, el_L_step_3, el_L_step_4, el_L_step_5, el_L_step_6, el_L_step_7, el_L_step_9, el_L_step_11 h (Nat.le_refl _) (zo_11 hx) rfl]
    rw [show (some (Value.int (zI v))).toList ++ [Value.int (zI 0), Value.ref a] = [Value.int (zI v), Value.int (zI 0), Value.ref a] from rfl, el_L_step_14]
    rw [el_L_step_15 (n := 1) (f := fun j => Int64.ofInt (S' a j)) (by rw [zh_1, ha]; rfl) (by decide)]
    rw [show (0 : Int).toNat = 0 from rfl, zp_23 ha, el_L_step_16, el_L_step_27, el_L_step_28]
    exact hQ
  | inr E =>
    have hp0 := hp
    rcases hE E F' hp with rfl | rfl
    · refine ⟨.inr nse, S', F', sA, sB, px_ofQ fun Q hQ => ?_, fun b h1 h2 => hf b h2, trivial, hc, hp⟩
      rw [el_L_step_0, el_L_step_2, el_L_step_3, el_L_step_4, el_L_step_5, el_L_step_6, el_L_step_7, el_L_step_9, el_L_step_11x h (Nat.le_refl _) (zo_11 hx) rfl]
      show px_Ev _ 216 21 [.ref x, .int (zI y0), .int (zI y1), .int (zI y2), .int (zI y3), .int (zI y4), .ref a, .retAddr 0] [] _ Q
      rw [el_L_step_21, el_L_step_22]
      exact hQ
    · refine ⟨.inr iae, S', F', sA, sB, px_ofQ fun Q hQ => ?_, fun b h1 h2 => hf b h2, trivial, hc, hp⟩
      rw [el_L_step_0, el_L_step_2, el_L_step_3, el_L_step_4, el_L_step_5, el_L_step_6, el_L_step_7, el_L_step_9, el_L_step_11x h (Nat.le_refl _) (zo_11 hx) rfl]
      show px_Ev _ 216 25 [.ref x, .int (zI y0), .int (zI y1), .int (zI y2), .int (zI y3), .int (zI y4), .ref a, .retAddr 0] [] _ Q
      rw [el_L_step_25, el_L_step_26]
      exact hQ
theorem lw_best {d : Nat} {y0 y1 y2 : Int} (h : opR d 114 [.ref x, .int (zI y0), .int (zI y1), .int (zI y2)] T S c x k P) (ha : T a = (23, 1)) (hx : T x = (11, 0)) (hax : a < x ∨ x + 148 ≤ a) (hE : ∀ E F', P (.inr E) F' → E = nse ∨ E = iae) : lwR (d + 1) 217 [.ref x, .int (zI y0), .int (zI y1), .int (zI y2), .ref a, .retAddr 0] T S c x a k kc2 P := by
  obtain ⟨r, S', F', sA, sB, h, hf, hc, hp⟩ := h
  cases r with
  | inl v =>
    refine ⟨.inl v, upS S' a (upz (S' a) 0 (zI v).toInt), F', sA, sB, px_ofQ fun Q hQ => ?_, fun b h1 h2 => by rw [upS_ne h1]; exact hf b h2, by show upS S' a _ a 0 = _; rw [upS_eq, upz_eq], hc.off hax, hp⟩
    rw [el_L_best_0, el_L_best_2, el_L_best_3, el_L_best_4, el_L_best_5, el_L_best_6, el_L_best_7 h (Nat.le_refl _) (zo_11 hx) rfl]
    rw [show (some (Value.int (zI v))).toList ++ [Value.int (zI 0), Value.ref a] = [Value.int (zI v), Value.int (zI 0), Value.ref a] from rfl, el_L_best_10]
    rw [el_L_best_11 (n := 1) (f := fun j => Int64.ofInt (S' a j)) (by rw [zh_1, ha]; rfl) (by decide)]
    rw [show (0 : Int).toNat = 0 from rfl, zp_23 ha, el_L_best_12, el_L_best_23, el_L_best_24]
    exact hQ
  | inr E =>
    have hp0 := hp
    rcases hE E F' hp with rfl | rfl
    · refine ⟨.inr nse, S', F', sA, sB, px_ofQ fun Q hQ => ?_, fun b h1 h2 => hf b h2, trivial, hc, hp⟩
      rw [el_L_best_0, el_L_best_2, el_L_best_3, el_L_best_4, el_L_best_5, el_L_best_6, el_L_best_7x h (Nat.le_refl _) (zo_11 hx) rfl]
      show px_Ev _ 217 17 [.ref x, .int (zI y0), .int (zI y1), .int (zI y2), .ref a, .retAddr 0] [] _ Q
      rw [el_L_best_17, el_L_best_18]
      exact hQ
    · refine ⟨.inr iae, S', F', sA, sB, px_ofQ fun Q hQ => ?_, fun b h1 h2 => hf b h2, trivial, hc, hp⟩
      rw [el_L_best_0, el_L_best_2, el_L_best_3, el_L_best_4, el_L_best_5, el_L_best_6, el_L_best_7x h (Nat.le_refl _) (zo_11 hx) rfl]
      show px_Ev _ 217 21 [.ref x, .int (zI y0), .int (zI y1), .int (zI y2), .ref a, .retAddr 0] [] _ Q
      rw [el_L_best_21, el_L_best_22]
      exact hQ
theorem lw_found {d : Nat} {y0 : Int} (h : opR d 115 [.ref x, .int (zI y0)] T S c x k P) (ha : T a = (23, 1)) (hx : T x = (11, 0)) (hax : a < x ∨ x + 148 ≤ a) (hE : ∀ E F', P (.inr E) F' → E = nse) : lwR (d + 1) 218 [.ref x, .int (zI y0), .ref a, .retAddr 0] T S c x a k kc1 P := by
  obtain ⟨r, S', F', sA, sB, h, hf, hc, hp⟩ := h
  cases r with
  | inl v =>
    refine ⟨.inl v, upS S' a (upz (S' a) 0 (zI v).toInt), F', sA, sB, px_ofQ fun Q hQ => ?_, fun b h1 h2 => by rw [upS_ne h1]; exact hf b h2, by show upS S' a _ a 0 = _; rw [upS_eq, upz_eq], hc.off hax, hp⟩
    rw [el_L_found_0, el_L_found_1, el_L_found_2, el_L_found_3, el_L_found_4 h (Nat.le_refl _) (zo_11 hx) rfl]
    rw [show (some (Value.int (zI v))).toList ++ [Value.int (zI 0), Value.ref a] = [Value.int (zI v), Value.int (zI 0), Value.ref a] from rfl, el_L_found_7]
    rw [el_L_found_8 (n := 1) (f := fun j => Int64.ofInt (S' a j)) (by rw [zh_1, ha]; rfl) (by decide)]
    rw [show (0 : Int).toNat = 0 from rfl, zp_23 ha, el_L_found_9, el_L_found_15, el_L_found_16]
    exact hQ
  | inr E =>
    have hp0 := hp
    rcases hE E F' hp with rfl
    · refine ⟨.inr nse, S', F', sA, sB, px_ofQ fun Q hQ => ?_, fun b h1 h2 => hf b h2, trivial, hc, hp⟩
      rw [el_L_found_0, el_L_found_1, el_L_found_2, el_L_found_3, el_L_found_4x h (Nat.le_refl _) (zo_11 hx) rfl]
      show px_Ev _ 218 13 [.ref x, .int (zI y0), .ref a, .retAddr 0] [] _ Q
      rw [el_L_found_13, el_L_found_14]
      exact hQ
theorem lw_mean {d : Nat} {y0 y1 : Int} (h : opR d 116 [.ref x, .int (zI y0), .int (zI y1), .retAddr 0, .retAddr 0, .retAddr 0] T S c x k P) (ha : T a = (23, 1)) (hx : T x = (11, 0)) (hax : a < x ∨ x + 148 ≤ a) (hE : ∀ E F', P (.inr E) F' → E = nse ∨ E = iae) : lwR (d + 1) 219 [.ref x, .int (zI y0), .int (zI y1), .ref a, .retAddr 0] T S c x a k kc2 P := by
  obtain ⟨r, S', F', sA, sB, h, hf, hc, hp⟩ := h
  cases r with
  | inl v =>
    refine ⟨.inl v, upS S' a (upz (S' a) 0 (zI v).toInt), F', sA, sB, px_ofQ fun Q hQ => ?_, fun b h1 h2 => by rw [upS_ne h1]; exact hf b h2, by show upS S' a _ a 0 = _; rw [upS_eq, upz_eq], hc.off hax, hp⟩
    rw [el_L_mean_0, el_L_mean_1, el_L_mean_2, el_L_mean_3, el_L_mean_4, el_L_mean_5 h (Nat.le_refl _) (zo_11 hx) rfl]
    rw [show (some (Value.int (zI v))).toList ++ [Value.int (zI 0), Value.ref a] = [Value.int (zI v), Value.int (zI 0), Value.ref a] from rfl, el_L_mean_8]
    rw [el_L_mean_9 (n := 1) (f := fun j => Int64.ofInt (S' a j)) (by rw [zh_1, ha]; rfl) (by decide)]
    rw [show (0 : Int).toNat = 0 from rfl, zp_23 ha, el_L_mean_10, el_L_mean_21, el_L_mean_22]
    exact hQ
  | inr E =>
    have hp0 := hp
    rcases hE E F' hp with rfl | rfl
    · refine ⟨.inr nse, S', F', sA, sB, px_ofQ fun Q hQ => ?_, fun b h1 h2 => hf b h2, trivial, hc, hp⟩
      rw [el_L_mean_0, el_L_mean_1, el_L_mean_2, el_L_mean_3, el_L_mean_4, el_L_mean_5x h (Nat.le_refl _) (zo_11 hx) rfl]
      show px_Ev _ 219 15 [.ref x, .int (zI y0), .int (zI y1), .ref a, .retAddr 0] [] _ Q
      rw [el_L_mean_15, el_L_mean_16]
      exact hQ
    · refine ⟨.inr iae, S', F', sA, sB, px_ofQ fun Q hQ => ?_, fun b h1 h2 => hf b h2, trivial, hc, hp⟩
      rw [el_L_mean_0, el_L_mean_1, el_L_mean_2, el_L_mean_3, el_L_mean_4, el_L_mean_5x h (Nat.le_refl _) (zo_11 hx) rfl]
      show px_Ev _ 219 19 [.ref x, .int (zI y0), .int (zI y1), .ref a, .retAddr 0] [] _ Q
      rw [el_L_mean_19, el_L_mean_20]
      exact hQ
theorem lw_rows {d : Nat} {y0 y1 : Int} (h : opR d 117 [.ref x, .int (zI y0), .int (zI y1)] T S c x k P) (ha : T a = (23, 1)) (hx : T x = (11, 0)) (hax : a < x ∨ x + 148 ≤ a) (hE : ∀ E F', P (.inr E) F' → E = iae) : lwR (d + 1) 220 [.ref x, .int (zI y0), .int (zI y1), .ref a, .retAddr 0] T S c x a k kc1 P := by
  obtain ⟨r, S', F', sA, sB, h, hf, hc, hp⟩ := h
  cases r with
  | inl v =>
    refine ⟨.inl v, upS S' a (upz (S' a) 0 (zI v).toInt), F', sA, sB, px_ofQ fun Q hQ => ?_, fun b h1 h2 => by rw [upS_ne h1]; exact hf b h2, by show upS S' a _ a 0 = _; rw [upS_eq, upz_eq], hc.off hax, hp⟩
    rw [el_L_rows_0, el_L_rows_1, el_L_rows_2, el_L_rows_3, el_L_rows_4, el_L_rows_5 h (Nat.le_refl _) (zo_11 hx) rfl]
    rw [show (some (Value.int (zI v))).toList ++ [Value.int (zI 0), Value.ref a] = [Value.int (zI v), Value.int (zI 0), Value.ref a] from rfl, el_L_rows_8]
    rw [el_L_rows_9 (n := 1) (f := fun j => Int64.ofInt (S' a j)) (by rw [zh_1, ha]; rfl) (by decide)]
    rw [show (0 : Int).toNat = 0 from rfl, zp_23 ha, el_L_rows_10, el_L_rows_17, el_L_rows_18]
    exact hQ
  | inr E =>
    have hp0 := hp
    rcases hE E F' hp with rfl
    · refine ⟨.inr iae, S', F', sA, sB, px_ofQ fun Q hQ => ?_, fun b h1 h2 => hf b h2, trivial, hc, hp⟩
      rw [el_L_rows_0, el_L_rows_1, el_L_rows_2, el_L_rows_3, el_L_rows_4, el_L_rows_5x h (Nat.le_refl _) (zo_11 hx) rfl]
      show px_Ev _ 220 15 [.ref x, .int (zI y0), .int (zI y1), .ref a, .retAddr 0] [] _ Q
      rw [el_L_rows_15, el_L_rows_16]
      exact hQ
theorem lw_evening {d : Nat} {y0 : Int} (h : opR d 118 [.ref x, .int (zI y0), .retAddr 0] T S c x k P) (ha : T a = (23, 1)) (hx : T x = (11, 0)) (hax : a < x ∨ x + 148 ≤ a) (hE : ∀ E F', P (.inr E) F' → E = iae) : lwR (d + 1) 221 [.ref x, .int (zI y0), .ref a, .retAddr 0] T S c x a k kc1 P := by
  obtain ⟨r, S', F', sA, sB, h, hf, hc, hp⟩ := h
  cases r with
  | inl v =>
    refine ⟨.inl v, upS S' a (upz (S' a) 0 (zI v).toInt), F', sA, sB, px_ofQ fun Q hQ => ?_, fun b h1 h2 => by rw [upS_ne h1]; exact hf b h2, by show upS S' a _ a 0 = _; rw [upS_eq, upz_eq], hc.off hax, hp⟩
    rw [el_L_evening_0, el_L_evening_1, el_L_evening_2, el_L_evening_3, el_L_evening_4 h (Nat.le_refl _) (zo_11 hx) rfl]
    rw [show (some (Value.int (zI v))).toList ++ [Value.int (zI 0), Value.ref a] = [Value.int (zI v), Value.int (zI 0), Value.ref a] from rfl, el_L_evening_7]
    rw [el_L_evening_8 (n := 1) (f := fun j => Int64.ofInt (S' a j)) (by rw [zh_1, ha]; rfl) (by decide)]
    rw [show (0 : Int).toNat = 0 from rfl, zp_23 ha, el_L_evening_9, el_L_evening_15, el_L_evening_16]
    exact hQ
  | inr E =>
    have hp0 := hp
    rcases hE E F' hp with rfl
    · refine ⟨.inr iae, S', F', sA, sB, px_ofQ fun Q hQ => ?_, fun b h1 h2 => hf b h2, trivial, hc, hp⟩
      rw [el_L_evening_0, el_L_evening_1, el_L_evening_2, el_L_evening_3, el_L_evening_4x h (Nat.le_refl _) (zo_11 hx) rfl]
      show px_Ev _ 221 13 [.ref x, .int (zI y0), .ref a, .retAddr 0] [] _ Q
      rw [el_L_evening_13, el_L_evening_14]
      exact hQ
theorem lw_trim {d : Nat} {y0 : Int} (h : opR d 119 [.ref x, .int (zI y0)] T S c x k P) (ha : T a = (23, 1)) (hx : T x = (11, 0)) (hax : a < x ∨ x + 148 ≤ a) (hE : ∀ E F', P (.inr E) F' → E = nse) : lwR (d + 1) 222 [.ref x, .int (zI y0), .ref a, .retAddr 0] T S c x a k kc1 P := by
  obtain ⟨r, S', F', sA, sB, h, hf, hc, hp⟩ := h
  cases r with
  | inl v =>
    refine ⟨.inl v, upS S' a (upz (S' a) 0 (zI v).toInt), F', sA, sB, px_ofQ fun Q hQ => ?_, fun b h1 h2 => by rw [upS_ne h1]; exact hf b h2, by show upS S' a _ a 0 = _; rw [upS_eq, upz_eq], hc.off hax, hp⟩
    rw [el_L_trim_0, el_L_trim_1, el_L_trim_2, el_L_trim_3, el_L_trim_4 h (Nat.le_refl _) (zo_11 hx) rfl]
    rw [show (some (Value.int (zI v))).toList ++ [Value.int (zI 0), Value.ref a] = [Value.int (zI v), Value.int (zI 0), Value.ref a] from rfl, el_L_trim_7]
    rw [el_L_trim_8 (n := 1) (f := fun j => Int64.ofInt (S' a j)) (by rw [zh_1, ha]; rfl) (by decide)]
    rw [show (0 : Int).toNat = 0 from rfl, zp_23 ha, el_L_trim_9, el_L_trim_15, el_L_trim_16]
    exact hQ
  | inr E =>
    have hp0 := hp
    rcases hE E F' hp with rfl
    · refine ⟨.inr nse, S', F', sA, sB, px_ofQ fun Q hQ => ?_, fun b h1 h2 => hf b h2, trivial, hc, hp⟩
      rw [el_L_trim_0, el_L_trim_1, el_L_trim_2, el_L_trim_3, el_L_trim_4x h (Nat.le_refl _) (zo_11 hx) rfl]
      show px_Ev _ 222 13 [.ref x, .int (zI y0), .ref a, .retAddr 0] [] _ Q
      rw [el_L_trim_13, el_L_trim_14]
      exact hQ
theorem lw_taught {d : Nat} {y0 : Int} (h : opR d 121 [.ref x, .int (zI y0)] T S c x k P) (ha : T a = (23, 1)) (hx : T x = (11, 0)) (hax : a < x ∨ x + 148 ≤ a) (hE : ∀ E F', P (.inr E) F' → E = nse) : lwR (d + 1) 223 [.ref x, .int (zI y0), .ref a, .retAddr 0] T S c x a k kc1 P := by
  obtain ⟨r, S', F', sA, sB, h, hf, hc, hp⟩ := h
  cases r with
  | inl v =>
    refine ⟨.inl v, upS S' a (upz (S' a) 0 (zI v).toInt), F', sA, sB, px_ofQ fun Q hQ => ?_, fun b h1 h2 => by rw [upS_ne h1]; exact hf b h2, by show upS S' a _ a 0 = _; rw [upS_eq, upz_eq], hc.off hax, hp⟩
    rw [el_L_taught_0, el_L_taught_1, el_L_taught_2, el_L_taught_3, el_L_taught_4 h (Nat.le_refl _) (zo_11 hx) rfl]
    rw [show (some (Value.int (zI v))).toList ++ [Value.int (zI 0), Value.ref a] = [Value.int (zI v), Value.int (zI 0), Value.ref a] from rfl, el_L_taught_7]
    rw [el_L_taught_8 (n := 1) (f := fun j => Int64.ofInt (S' a j)) (by rw [zh_1, ha]; rfl) (by decide)]
    rw [show (0 : Int).toNat = 0 from rfl, zp_23 ha, el_L_taught_9, el_L_taught_15, el_L_taught_16]
    exact hQ
  | inr E =>
    have hp0 := hp
    rcases hE E F' hp with rfl
    · refine ⟨.inr nse, S', F', sA, sB, px_ofQ fun Q hQ => ?_, fun b h1 h2 => hf b h2, trivial, hc, hp⟩
      rw [el_L_taught_0, el_L_taught_1, el_L_taught_2, el_L_taught_3, el_L_taught_4x h (Nat.le_refl _) (zo_11 hx) rfl]
      show px_Ev _ 223 13 [.ref x, .int (zI y0), .ref a, .retAddr 0] [] _ Q
      rw [el_L_taught_13, el_L_taught_14]
      exact hQ
end LAW
