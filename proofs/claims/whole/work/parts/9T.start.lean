/-! THE START: the context at the law's entry -/
theorem pa_t {w : Cond} (h : w ∈ tables_1) : w ∈ lw_tbl := List.mem_append_right _ h
theorem pa_prim {s : State} {A : Array Value} {t : FieldType} (h : (Cond.arrayClass t).before A s = true) : ∃ c, ArrOfT s c t ∧ s.vm.findClass ("[" ++ t.toString) = some c := by
  obtain ⟨c, k, comp, h1, h2, h3⟩ := Cond.arrayClass_spec (args := A) (first := s) (o := none) (s := s) (idx := []) h
  exact ⟨c, fun n z => ⟨fun k e => (by cases e), k, h2, comp, h3⟩, h1⟩
theorem pa_obj {s : State} {A : Array Value} {n : String} (h : (Cond.arrayOver (.object n)).before A s = true) : ∃ c, ArrOfT s c (.object n) ∧ va_RA s c (.object n) := by
  obtain ⟨comp, c, k, h1, -, h2, h3, h4⟩ := Cond.arrayOver_spec (args := A) (first := s) (o := none) (s := s) (idx := []) h
  exact ⟨c, fun n z => ⟨fun k e => (by cases e), k, h2, comp, h3⟩, k, comp, h2, h3, h1, h4⟩
theorem pa_arr {s : State} {A : Array Value} {t : FieldType} (h : (Cond.arrayOver (.array t)).before A s = true) : ∃ c, ArrOfT s c (.array t) ∧ va_RA s c (.array t) := by
  obtain ⟨comp, c, k, h1, h2, h3, h4⟩ := Cond.arrayOver_specA (args := A) (first := s) (o := none) (s := s) (idx := []) h
  exact ⟨c, fun n z => ⟨fun k e => (by cases e), k, h2, comp, h3⟩, h4⟩
theorem pa_eqr {args : Array Value} {s : State} {t u : Term} {a : Nat} (h : (Cond.eq t u).before args s = true) (ht : t.eval args s none [] s = some (.ref a)) : u.eval args s none [] s = some (.ref a) := by
  cases hv : u.eval args s none [] s with
  | none => simp [Cond.before, Cond.holds, Cond.value, ht, hv] at h
  | some w =>
    simp only [Cond.before, Cond.holds, Cond.value, ht, hv] at h
    cases w <;> simp_all
theorem pa_tab {β : Type} (ad : Nat → Nat) (f : Nat → β) (hf : ∀ i j, i < 10 → j < 10 → ad i = ad j → f i = f j) : ∃ t : Nat → Option β, (∀ i, i < 10 → t (ad i) = some (f i)) ∧ ∀ a y, t a = some y → ∃ i, i < 10 ∧ a = ad i ∧ y = f i := by
  have h0 : ∀ a : Nat, ∃ o : Option β, (∀ i, i < 10 → a = ad i → o = some (f i)) ∧ ∀ y, o = some y → ∃ i, i < 10 ∧ a = ad i ∧ y = f i := by
    intro a
    rcases Classical.em (∃ i, i < 10 ∧ a = ad i) with ⟨i, hi, e⟩ | h
    · exact ⟨some (f i), fun j hj ej => congrArg some (hf i j hi hj (e.symm.trans ej)), fun y hy => ⟨i, hi, e, (Option.some.inj hy).symm⟩⟩
    · exact ⟨none, fun i hi e => absurd ⟨i, hi, e⟩ h, fun y hy => by cases hy⟩
  obtain ⟨t, ht⟩ := Classical.axiomOfChoice h0
  exact ⟨t, fun i hi => (ht (ad i)).1 i hi rfl, fun a y hy => (ht a).2 y hy⟩
/-! the texts -/
def pa_txl : List (String × Nat) := [("FoldTower$Tape", 80), ("FoldTower$Tape", 86), ("FoldTower$Tape", 88), ("FoldTower$Tape", 90), ("FoldTower$SchoolText", 50), ("FoldTower$SchoolText", 59), ("FoldTower$SchoolText", 64), ("FoldTower$SchoolText", 69), ("FoldTower$SchoolText", 74), ("FoldTower$SchoolText", 79)]
def pa_tm (i : Nat) : Term := .string (pa_txl.getD i ("", 0)).1 (pa_txl.getD i ("", 0)).2
abbrev pa_g : List Cond := flatC (Jvm.Cond.and given_1 narrow_1)
def pa_b (i : Nat) : Nat := ([106, 120, 136, 152, 37, 46, 56, 66, 78, 92] : List Nat).getD i 0
def pa_n (i j : Nat) : Nat := ([0, 135, 150, 166, 114, 115, 116, 117, 118, 119, 135, 0, 151, 167, 129, 130, 131, 132, 133, 134, 150, 151, 0, 168, 144, 145, 146, 147, 148, 149, 166, 167, 168, 0, 160, 161, 162, 163, 164, 165, 114, 129, 144, 160, 0, 55, 64, 75, 88, 101, 115, 130, 145, 161, 55, 0, 65, 76, 89, 102, 116, 131, 146, 162, 64, 65, 0, 77, 90, 103, 117, 132, 147, 163, 75, 76, 77, 0, 91, 104, 118, 133, 148, 164, 88, 89, 90, 91, 0, 105, 119, 134, 149, 165, 101, 102, 103, 104, 105, 0] : List Nat).getD (10 * i + j) 0
theorem pa_ex : ∀ i, i < 10 → pa_g[pa_b i]? = some (Cond.exactly (pa_tm i) "java/lang/String") := by decide +kernel
theorem pa_co : ∀ i, i < 10 → pa_g[pa_b i + 1]? = some (Cond.eq (.field (pa_tm i) "java/lang/String" "coder" "B") (.int 0)) := by decide +kernel
theorem pa_ar : ∀ i, i < 10 → pa_g[pa_b i + 2]? = some (Cond.arrayOf (.field (pa_tm i) "java/lang/String" "value" "[B") .byte) := by decide +kernel
theorem pa_le : ∀ i, i < 10 → pa_g[pa_b i + 3]? = some (Cond.eq (.length (.field (pa_tm i) "java/lang/String" "value" "[B")) (.int (Int32.ofNat (po_len.getD i 0)))) := by decide +kernel
theorem pa_el : ∀ i, i < 10 → ∀ j, j < po_len.getD i 0 → pa_g[pa_b i + 4 + j]? = some (Cond.eq (.elem (.field (pa_tm i) "java/lang/String" "value" "[B") (.int (Int32.ofNat j))) (.int ((po_byt.getD i []).getD j 0))) := by decide +kernel
theorem pa_ne : ∀ i, i < 10 → ∀ j, j < 10 → i ≠ j → pa_g[pa_n i j]? = some (Cond.not (Cond.eq (pa_tm i) (pa_tm j))) ∨ pa_g[pa_n i j]? = some (Cond.not (Cond.eq (pa_tm j) (pa_tm i))) := by decide +kernel
theorem pa_sr : ∀ q ∈ po_tcs, Cond.stringRef q.1 q.2.1 (po_txs.getD q.2.2 "") ∈ tables_1 := by decide +kernel
theorem pa_eq : ∀ q ∈ po_tcs, q.2.2 < 10 ∧ (Term.string q.1 q.2.1 = pa_tm q.2.2 ∨ Cond.eq (pa_tm q.2.2) (.string q.1 q.2.1) ∈ pa_g) := by decide +kernel
theorem pa_ln : ∀ i, i < 10 → po_len.getD i 0 < 2 ^ 31 ∧ (po_byt.getD i []).length = po_len.getD i 0 ∧ po_code i = (po_byt.getD i []).map (fun x => x.toInt.toNat) := by decide +kernel
theorem pa_st : Cond.isRef (.static "java/lang/Throwable" "UNASSIGNED_STACK" "[Ljava/lang/StackTraceElement;") ∈ pa_g ∧ Cond.isRef (.static "java/lang/Throwable" "SUPPRESSED_SENTINEL" "Ljava/util/List;") ∈ pa_g ∧ Cond.eq (.static "java/lang/String" "COMPACT_STRINGS" "Z") (.int 1) ∈ pa_g ∧ Cond.isRef (.static "jdk/internal/util/Preconditions" "SIOOBE_FORMATTER" "Ljava/util/function/BiFunction;") ∈ pa_g ∧ Cond.not (.castable "java/lang/IllegalArgumentException" "java/util/NoSuchElementException") ∈ pa_g := by decide +kernel
theorem pa_lst {l1 l2 : List Int32} (hl : l1.length = l2.length) (h : ∀ n, n < l1.length → l1.getD n 0 = l2.getD n 0) : l1 = l2 := by
  refine List.ext_getElem hl fun n n1 n2 => ?_
  have e4 := h n n1
  rw [List.getD_eq_getElem?_getD, List.getD_eq_getElem?_getD, List.getElem?_eq_getElem n1, List.getElem?_eq_getElem n2] at e4
  exact e4
theorem pa_cod {A : Nat → Prop} {s : State} {adK adV : Nat → Nat} {H : Heap} (h : vk_S 10 po_len po_byt adK adV A s H) : ∀ i j, i < 10 → j < 10 → adV i = adV j → po_code i = po_code j := by
  intro i j hi hj e
  obtain ⟨c1, h1, -, -, -, g1, k1, -⟩ := (h.1 i hi).2.2.2
  obtain ⟨c2, h2, -, -, -, g2, k2, -⟩ := (h.1 j hj).2.2.2
  obtain ⟨p1, p2, p3⟩ := pa_ln i hi
  obtain ⟨q1, q2, q3⟩ := pa_ln j hj
  rw [e] at h1
  cases Option.some.inj (h1.symm.trans h2)
  have hl : po_len.getD i 0 = po_len.getD j 0 := by
    have t1 := congrArg Int32.toInt (g1.symm.trans g2)
    have r1 : (Int32.ofNat (po_len.getD i 0)).toInt = (po_len.getD i 0 : Nat) := Int32.toInt_ofNat_of_lt p1
    have r2 : (Int32.ofNat (po_len.getD j 0)).toInt = (po_len.getD j 0 : Nat) := Int32.toInt_ofNat_of_lt q1
    omega
  rw [p3, q3, pa_lst (l1 := po_byt.getD i []) (l2 := po_byt.getD j []) (by rw [p2, q2, hl]) (fun n hn => Value.int.inj (Option.some.inj ((k1 n (by omega)).symm.trans (k2 n (by omega)))))]
theorem pa_wt {s : State} {A : Array Value} {w : Cond} (hw : po_other w = true) (h : w.before A s = true) : w.before #[] s = true := by
  unfold po_other at hw
  split at hw
  · exact va_Nw.of rfl h
  · exact va_Nw.of rfl h
  · exact va_Nw.of rfl h
  · exact h
  · exact h
  · cases hw
theorem pa_ctx {s : State} {b L : Nat} {xs : Nat → Int32} (hts : ∀ w ∈ lw_tbl, w.before #[Value.ref b] s = true) (hX : va_X b L xs s s.heap) (hb : b < s.heap.size) (hgv : (Cond.and given_1 narrow_1).before #[Value.ref b] s = true) :
    ∃ X : po_X, X.2.2.1 = s.heap ∧ X.2.2.2.1 = (b, L, xs) ∧ tcx X.2.2.2 ∧ po_Ctx X s := by
  have hws : ∀ w ∈ po_ws, w.before #[Value.ref b] s = true := fun w hw => hts w (List.mem_filter.mp hw).1
  have hg := flat_of_before _ hgv
  have hA : ∀ a : Nat, a < s.heap.size → ¬ (fun q : Nat => s.heap.size ≤ q) a := fun a h => Nat.not_le.mpr h
  obtain ⟨c0, d0, k0⟩ := u_known (C := RX0) (T := TX0) (N := 6) (n := 6) hws pu_X0 (hts (Cond.instantiable "FoldTower$Evening" 6) (pa_t (List.mem_of_getElem? (i := 413) (by decide +kernel))))
  obtain ⟨c1, d1, k1⟩ := u_known (C := RX1) (T := TX1) (N := 9) (n := 9) hws pu_X1 (hts (Cond.instantiable "FoldTower$Flight" 9) (pa_t (List.mem_of_getElem? (i := 297) (by decide +kernel))))
  obtain ⟨c2, d2, k2⟩ := u_known (C := RX2) (T := TX2) (N := 3) (n := 3) hws pu_X2 (hts (Cond.instantiable "FoldTower$Lessons" 3) (pa_t (List.mem_of_getElem? (i := 442) (by decide +kernel))))
  obtain ⟨c3, d3, k3⟩ := u_known (C := RX3) (T := TX3) (N := 3) (n := 3) hws pu_X3 (hts (Cond.instantiable "FoldTower$RowText" 3) (pa_t (List.mem_of_getElem? (i := 96) (by decide +kernel))))
  obtain ⟨c4, d4, k4⟩ := u_known (C := RX4) (T := TX4) (N := 14) (n := 14) hws pu_X4 (hts (Cond.instantiable "FoldTower$School" 14) (pa_t (List.mem_of_getElem? (i := 114) (by decide +kernel))))
  obtain ⟨c5, d5, k5⟩ := u_known (C := RX5) (T := TX5) (N := 5) (n := 5) hws pu_X5 (hts (Cond.instantiable "FoldTower$SchoolText" 5) (pa_t (List.mem_of_getElem? (i := 73) (by decide +kernel))))
  obtain ⟨c6, d6, k6⟩ := u_known (C := RX6) (T := TX6) (N := 17) (n := 17) hws pu_X6 (hts (Cond.instantiable "FoldTower$Search" 17) (pa_t (List.mem_of_getElem? (i := 343) (by decide +kernel))))
  obtain ⟨c7, d7, k7⟩ := u_known (C := RX7) (T := TX7) (N := 13) (n := 13) hws pu_X7 (hts (Cond.instantiable "FoldTower$Sheet" 13) (pa_t (List.mem_of_getElem? (i := 214) (by decide +kernel))))
  obtain ⟨c8, d8, k8⟩ := u_known (C := RX8) (T := TX8) (N := 7) (n := 7) hws pu_X8 (hts (Cond.instantiable "FoldTower$State" 7) (pa_t (List.mem_of_getElem? (i := 263) (by decide +kernel))))
  obtain ⟨c9, d9, k9⟩ := u_known (C := RX9) (T := TX9) (N := 9) (n := 9) hws pu_X9 (hts (Cond.instantiable "FoldTower$Tape" 9) (pa_t (List.mem_of_getElem? (i := 35) (by decide +kernel))))
  obtain ⟨c10, d10, k10⟩ := u_known (C := RX10) (T := TX10) (N := 14) (n := 14) hws pu_X10 (hts (Cond.instantiable "FoldTower" 14) (pa_t (List.mem_of_getElem? (i := 27) (by decide +kernel))))
  obtain ⟨c11, d11, k11⟩ := u_known (C := RX11) (T := TX11) (N := 66) (n := 66) hws pu_X11 (hts (Cond.instantiable "FoldTowerModel" 66) (pa_t (List.mem_of_getElem? (i := 1205) (by decide +kernel))))
  obtain ⟨a0, v0, n0⟩ := pa_prim (t := .int) (hts (Cond.arrayClass .int) (pa_t (List.mem_of_getElem? (i := 112) (by decide +kernel))))
  obtain ⟨a1, v1, n1⟩ := pa_prim (t := .boolean) (hts (Cond.arrayClass .boolean) (pa_t (List.mem_of_getElem? (i := 94) (by decide +kernel))))
  obtain ⟨a2, v2, n2⟩ := pa_prim (t := .char) (hts (Cond.arrayClass .char) (pa_t (List.mem_of_getElem? (i := 71) (by decide +kernel))))
  obtain ⟨a3, v3, n3⟩ := pa_prim (t := .long) (hts (Cond.arrayClass .long) (pa_t (List.mem_of_getElem? (i := 1713) (by decide +kernel))))
  obtain ⟨a4, v4, n4⟩ := pa_obj (hts (Cond.arrayOver (.object "FoldTower$Sheet")) (pa_t (List.mem_of_getElem? (i := 349) (by decide +kernel))))
  obtain ⟨a5, v5, n5⟩ := pa_obj (hts (Cond.arrayOver (.object "java/lang/String")) (pa_t (List.mem_of_getElem? (i := 1211) (by decide +kernel))))
  obtain ⟨a6, v6, n6⟩ := pa_arr (hts (Cond.arrayOver (.array .int)) (pa_t (List.mem_of_getElem? (i := 419) (by decide +kernel))))
  obtain ⟨adK, adV, hS, hev⟩ := vk_Sof (args := #[Value.ref b]) (s := s) (N := 10) (tm := pa_tm) (len := po_len) (byt := po_byt) (A := fun q : Nat => s.heap.size ≤ q) (fun i hi => (pa_ln i hi).1) (fun i hi => hg _ (List.mem_of_getElem? (pa_ex i hi))) (fun i hi => hg _ (List.mem_of_getElem? (pa_co i hi))) (fun i hi => hg _ (List.mem_of_getElem? (pa_ar i hi))) (fun i hi => hg _ (List.mem_of_getElem? (pa_le i hi))) (fun i hi j hj => hg _ (List.mem_of_getElem? (pa_el i hi j hj))) (fun i j hi hj hij => (pa_ne i hi j hj hij).imp (fun z => hg _ (List.mem_of_getElem? z)) (fun z => hg _ (List.mem_of_getElem? z))) hA
  obtain ⟨tK, tK1, tK2⟩ := pa_tab adK (fun i => (adV i, po_code i)) (fun i j hi hj e => by rw [hS.2 i j hi hj e])
  obtain ⟨tV, tV1, tV2⟩ := pa_tab adV po_code (pa_cod hS)
  have hcs := va_Zof (A := fun q : Nat => s.heap.size ≤ q) (hts (Cond.laysStatic "java/lang/String" "COMPACT_STRINGS" "Z") (pa_t (List.mem_of_getElem? (i := 725) (by decide +kernel)))) (hts (Cond.initialized "java/lang/String") (pa_t (List.mem_of_getElem? (i := 19) (by decide +kernel)))) (va_eqi (hg _ pa_st.2.2.1)) hA
  have hfm := va_Zqof (A := fun q : Nat => s.heap.size ≤ q) (hts (Cond.laysStatic "jdk/internal/util/Preconditions" "SIOOBE_FORMATTER" "Ljava/util/function/BiFunction;") (pa_t (List.mem_of_getElem? (i := 741) (by decide +kernel)))) (hts (Cond.initialized "jdk/internal/util/Preconditions") (pa_t (List.mem_of_getElem? (i := 21) (by decide +kernel)))) (hg _ pa_st.2.2.2.1) hA
  obtain ⟨vf, hvf, hfm⟩ : ∃ vf : Value, (vf = .null ∨ ∃ t, vf = .ref t) ∧ va_Z "jdk/internal/util/Preconditions" "SIOOBE_FORMATTER" "Ljava/util/function/BiFunction;" vf (fun q : Nat => s.heap.size ≤ q) s s.heap := by
    rcases hfm with h | ⟨t, h⟩
    · exact ⟨_, Or.inl rfl, h⟩
    · exact ⟨_, Or.inr ⟨t, rfl⟩, h⟩
  have hu := vx_Zqof (A := fun q : Nat => s.heap.size ≤ q) (hts (Cond.laysStatic "java/lang/Throwable" "UNASSIGNED_STACK" "[Ljava/lang/StackTraceElement;") (pa_t (List.mem_of_getElem? (i := 643) (by decide +kernel)))) (hts (Cond.initialized "java/lang/Throwable") (pa_t (List.mem_of_getElem? (i := 15) (by decide +kernel)))) (hg _ pa_st.1) hA
  have hp := vx_Zqof (A := fun q : Nat => s.heap.size ≤ q) (hts (Cond.laysStatic "java/lang/Throwable" "SUPPRESSED_SENTINEL" "Ljava/util/List;") (pa_t (List.mem_of_getElem? (i := 645) (by decide +kernel)))) (hts (Cond.initialized "java/lang/Throwable") (pa_t (List.mem_of_getElem? (i := 15) (by decide +kernel)))) (hg _ pa_st.2.1) hA

  refine ⟨((fun k => match k with | 0 => c0 | 1 => c1 | 2 => c2 | 3 => c3 | 4 => c4 | 5 => c5 | 6 => c6 | 7 => c7 | 8 => c8 | 9 => c9 | 10 => c10 | _ => c11, fun k => match k with | 0 => d0 | 1 => d1 | 2 => d2 | 3 => d3 | 4 => d4 | 5 => d5 | 6 => d6 | 7 => d7 | 8 => d8 | 9 => d9 | 10 => d10 | _ => d11), fun k => match k with | 0 => a0 | 1 => a1 | 2 => a2 | 3 => a3 | 4 => a4 | 5 => a5 | _ => a6, s.heap, ((b, L, xs), adK, tK, tV, vf)), rfl, rfl, ⟨fun i hi => ⟨adV i, tK1 i hi, tV1 i hi⟩, hvf⟩, ⟨fun k q hq => ?_, fun k q hq => ?_⟩, hX, hb, hu, hp, ⟨adK, adV, hS, fun q hq => ?_, fun a t ht => ?_, fun a t ht => tV2 a t ht, hcs, hfm⟩, fun w hw => pa_wt (List.mem_filter.mp hw).2 (hts w (List.mem_filter.mp hw).1), va_Nc.of (hg _ pa_st.2.2.2.2)⟩
  · have hk : k < 12 := (List.getElem?_eq_some_iff.mp hq).1
    rcases (show k = 0 ∨ k = 1 ∨ k = 2 ∨ k = 3 ∨ k = 4 ∨ k = 5 ∨ k = 6 ∨ k = 7 ∨ k = 8 ∨ k = 9 ∨ k = 10 ∨ k = 11 by omega) with rfl | rfl | rfl | rfl | rfl | rfl | rfl | rfl | rfl | rfl | rfl | rfl
    · cases Option.some.inj hq; exact k0
    · cases Option.some.inj hq; exact k1
    · cases Option.some.inj hq; exact k2
    · cases Option.some.inj hq; exact k3
    · cases Option.some.inj hq; exact k4
    · cases Option.some.inj hq; exact k5
    · cases Option.some.inj hq; exact k6
    · cases Option.some.inj hq; exact k7
    · cases Option.some.inj hq; exact k8
    · cases Option.some.inj hq; exact k9
    · cases Option.some.inj hq; exact k10
    · cases Option.some.inj hq; exact k11
  · have hk : k < 7 := (List.getElem?_eq_some_iff.mp hq).1
    rcases (show k = 0 ∨ k = 1 ∨ k = 2 ∨ k = 3 ∨ k = 4 ∨ k = 5 ∨ k = 6 by omega) with rfl | rfl | rfl | rfl | rfl | rfl | rfl
    · cases Option.some.inj hq; exact ⟨v0, n0⟩
    · cases Option.some.inj hq; exact ⟨v1, n1⟩
    · cases Option.some.inj hq; exact ⟨v2, n2⟩
    · cases Option.some.inj hq; exact ⟨v3, n3⟩
    · cases Option.some.inj hq; exact ⟨v4, n4⟩
    · cases Option.some.inj hq; exact ⟨v5, n5⟩
    · cases Option.some.inj hq; exact ⟨v6, n6⟩
  · obtain ⟨h1, h2⟩ := pa_eq q hq
    refine vk_R.of (hts _ (pa_t (pa_sr q hq))) ?_
    rcases h2 with h2 | h2
    · rw [h2]
      exact hev _ h1
    · exact pa_eqr (hg _ h2) (hev _ h1)
  · obtain ⟨i, hi, e1, e2⟩ := tK2 a t ht
    exact ⟨i, hi, e1, by rw [e2]⟩
