/-! THE PURE HEAP AGAINST THE MACHINE'S -/
abbrev po_X : Type := va_G × (Nat → ClassId) × Heap × pm_C
def po_b (X : po_X) : Nat := X.2.2.1.size
abbrev po_A (X : po_X) : Nat → Prop := fun q => po_b X ≤ q
/-- the kinds of arrays -/
def po_kd : Nat → FieldType := fun k => match k with
  | 0 => .int
  | 1 => .boolean
  | 2 => .char
  | 3 => .long
  | 4 => .object "FoldTower$Sheet"
  | 5 => .object "java/lang/String"
  | _ => .array .int
def po_tys (X : po_X) : List (ClassId × FieldType) := [(X.2.1 0, .int), (X.2.1 1, .boolean), (X.2.1 2, .char), (X.2.1 3, .long), (X.2.1 4, .object "FoldTower$Sheet"), (X.2.1 5, .object "java/lang/String"), (X.2.1 6, .array .int)]
theorem po_tys_at (X : po_X) (k : Nat) (hk : k < 7) : (po_tys X)[k]? = some (X.2.1 k, po_kd k) := by
  rcases (show k = 0 ∨ k = 1 ∨ k = 2 ∨ k = 3 ∨ k = 4 ∨ k = 5 ∨ k = 6 by omega) with rfl | rfl | rfl | rfl | rfl | rfl | rfl <;> rfl
def po_cell (X : po_X) (e : pm_E) : va_E := match e with
  | .inl a => .inl (X.2.1 a.1, a.2)
  | .inr o => .inr o
/-- the world's list behind a pure heap -/
def po_In (X : po_X) (h : pm_H) (ws : va_W) : Prop := ∀ (a : Nat) (e : pm_E), h.1 a = some e → ∃ i : Nat, ws[i]? = some (a, po_cell X e)
def po_Rep (X : po_X) (h : pm_H) (H : Heap) (locs : List Loc) : Prop :=
  pm_cst h = X.2.2.2 ∧ pm_size h + pm_gap h = po_b X + pm_cells h ∧ (∀ a : Nat, po_b X ≤ a → a < pm_size h → ∃ e : pm_E, h.1 a = some e) ∧
  ∃ ws : va_W, va_P X.1 pm_cls ws H ∧ va_D (po_A X) ws ∧ va_S (po_A X) X.2.2.1 H locs ∧ po_In X h ws
theorem po_Rep.size {X : po_X} {h : pm_H} {H : Heap} {locs : List Loc} (hR : po_Rep X h H locs) : pm_size h ≤ H.size := by
  obtain ⟨-, -, hF, ws, hP, -, hS, hI⟩ := hR
  rcases Nat.lt_or_ge (po_b X) (pm_size h) with q | q
  · obtain ⟨e, he⟩ := hF (pm_size h - 1) (by omega) (by omega)
    obtain ⟨i, hi⟩ := hI _ _ he
    have h1 := (hP i _ hi).lt
    have h2 : pm_size h - 1 < H.size := h1
    omega
  · exact Nat.le_trans q hS.1
theorem po_In.put {X : po_X} {h : pm_H} {ws : va_W} (hI : po_In X h ws) {a i : Nat} {x : va_E} (e : pm_E) (hi : ws[i]? = some (a, x)) : po_In X (pm_put h a e) (ws.set i (a, po_cell X e)) := by
  intro a' e' h'
  have hlt : i < ws.length := (List.getElem?_eq_some_iff.mp hi).1
  by_cases ha : a' = a
  · subst ha
    have he : e = e' := by simpa [pm_put] using h'
    subst he
    exact ⟨i, List.getElem?_set_self hlt⟩
  · have h2 : h.1 a' = some e' := by simpa [pm_put, ha] using h'
    obtain ⟨j, hj⟩ := hI a' e' h2
    have hij : i ≠ j := fun z => by
      subst z
      rw [hi] at hj
      cases hj
      exact ha rfl
    exact ⟨j, by rw [List.getElem?_set_ne hij]; exact hj⟩
theorem po_Rep.put {X : po_X} {h : pm_H} {H1 : Heap} {locs1 : List Loc} {ws : va_W} {a i : Nat} {x : va_E} (e : pm_E) (h1 : pm_cst h = X.2.2.2) (h2 : pm_size h + pm_gap h = po_b X + pm_cells h) (h3 : ∀ a : Nat, po_b X ≤ a → a < pm_size h → ∃ e : pm_E, h.1 a = some e)
    (hI : po_In X h ws) (hi : ws[i]? = some (a, x)) (hP : va_P X.1 pm_cls (ws.set i (a, po_cell X e)) H1) (hD : va_D (po_A X) (ws.set i (a, po_cell X e))) (hS : va_S (po_A X) X.2.2.1 H1 locs1) : po_Rep X (pm_put h a e) H1 locs1 := by
  refine ⟨h1, h2, fun q hq1 hq2 => ?_, _, hP, hD, hS, hI.put e hi⟩
  by_cases ha : q = a
  · exact ⟨e, by simp [pm_put, ha]⟩
  · obtain ⟨e', he'⟩ := h3 q hq1 hq2
    exact ⟨e', by simp [pm_put, ha, he']⟩
/-- a new cell at the end of the heap -/
theorem po_Rep.new {X : po_X} {h : pm_H} {H H1 : Heap} {locs : List Loc} (e : pm_E) (n : Nat) (hR : po_Rep X h H locs) (hz : H.size = pm_size h) (hc : va_at X.1 pm_cls (pm_size h, po_cell X e) H1) (hsz : H1.size = pm_size h + 1) (hk : ∀ q, q < pm_size h → H1[q]? = H[q]?) : po_Rep X (pm_new h e n) H1 locs := by
  obtain ⟨h1, h2, h3, ws, hP, hD, hS, hI⟩ := hR
  have hkk : ∀ (k : Nat) (x : Nat × va_E), ws[k]? = some x → H1[x.1]? = H[x.1]? := fun k x hx => hk x.1 (by rw [← hz]; exact (hP k x hx).lt)
  refine ⟨h1, ?_, fun q hq1 hq2 => ?_, ws ++ [(pm_size h, po_cell X e)], (hP.kept hkk).app (fun k x hx => ?_), ?_, ⟨Nat.le_trans hS.1 (by omega), fun x q1 q2 => (hk x (by rw [← hz]; exact Nat.lt_of_lt_of_le q1 hS.1)).trans (hS.2.1 x q1 q2), hS.2.2⟩, fun a e' h' => ?_⟩
  · show pm_size h + 1 + pm_gap h = po_b X + (pm_cells h + 1)
    omega
  · have hq2 : q < pm_size h + 1 := hq2
    by_cases hq : q = pm_size h
    · exact ⟨e, by simp [pm_new, hq]⟩
    · obtain ⟨e', he'⟩ := h3 q hq1 (by omega)
      exact ⟨e', by simp [pm_new, hq, he']⟩
  · have hz1 : k < 1 := (List.getElem?_eq_some_iff.mp hx).1
    rw [show k = 0 by omega] at hx
    cases hx
    exact hc
  · exact hD.push (a := pm_size h) (e := po_cell X e) hP hz.symm (show po_b X ≤ pm_size h by rw [← hz]; exact hS.1)
  · by_cases ha : a = pm_size h
    · have he : e = e' := by simpa [pm_new, ha] using h'
      subst he
      exact ⟨ws.length, by rw [List.getElem?_append_right (Nat.le_refl _)]; simp [ha]⟩
    · have h4 : h.1 a = some e' := by simpa [pm_new, ha] using h'
      obtain ⟨j, hj⟩ := hI a e' h4
      exact ⟨j, by rw [List.getElem?_append_left (List.getElem?_eq_some_iff.mp hj).1]; exact hj⟩
/-- the words of the tables that any method may be told -/
def po_ws : List Cond := lw_tbl.filter goodWord
theorem po_in {w : Cond} (h : w ∈ tables_1) (hg : goodWord w = true) : w ∈ po_ws := List.mem_filter.mpr ⟨List.mem_append_right _ h, hg⟩
theorem po_inS {w : Cond} (h : w ∈ k2_sels lw_privs) (hg : goodWord w = true) : w ∈ po_ws := List.mem_filter.mpr ⟨List.mem_append_left _ h, hg⟩
/-- the texts, and the constants that name them: class, entry, the text's number -/
def po_txs : List String := ["left", "right", "nose", "tail", "sheet", "table", "wind", "tower", "window", "known"]
def po_len : List Nat := po_txs.map (fun t => t.toList.length)
def po_byt : List (List Int32) := po_txs.map (fun t => t.toList.map (fun c => Int32.ofNat c.toNat))
def po_code (i : Nat) : List Nat := (po_txs.getD i "").toList.map (fun c => c.toNat)
def po_tcs : List (String × Nat × Nat) := [("FoldTower$SchoolText", 50, 4), ("FoldTower$SchoolText", 59, 5), ("FoldTower$SchoolText", 64, 6), ("FoldTower$SchoolText", 69, 7), ("FoldTower$SchoolText", 74, 8), ("FoldTower$SchoolText", 79, 9), ("FoldTower$Tape", 80, 0), ("FoldTower$Tape", 86, 1), ("FoldTower$Tape", 88, 2), ("FoldTower$Tape", 90, 3), ("FoldTowerModel", 9, 0), ("FoldTowerModel", 11, 1), ("FoldTowerModel", 13, 2), ("FoldTowerModel", 15, 3), ("FoldTowerModel", 217, 4), ("FoldTowerModel", 219, 7), ("FoldTowerModel", 221, 8), ("FoldTowerModel", 226, 9), ("FoldTowerModel", 230, 5), ("FoldTowerModel", 247, 6)]
def po_Txt (X : po_X) (s : State) : Prop := ∃ adK adV : Nat → Nat, vk_S 10 po_len po_byt adK adV (po_A X) s X.2.2.1 ∧
  (∀ q ∈ po_tcs, vk_R q.1 q.2.1 (po_txs.getD q.2.2 "") (X.2.2.2.2.1 q.2.2) s) ∧ (∀ (a : Nat) (t : Nat × List Nat), X.2.2.2.2.2.1 a = some t → ∃ i : Nat, i < 10 ∧ a = adK i ∧ t.1 = adV i) ∧
  (∀ (a : Nat) (t : List Nat), X.2.2.2.2.2.2.1 a = some t → ∃ i : Nat, i < 10 ∧ a = adV i ∧ t = po_code i) ∧
  va_Z "java/lang/String" "COMPACT_STRINGS" "Z" (.int 1) (po_A X) s X.2.2.1 ∧ va_Z "jdk/internal/util/Preconditions" "SIOOBE_FORMATTER" "Ljava/util/function/BiFunction;" X.2.2.2.2.2.2.2 (po_A X) s X.2.2.1
theorem po_Txt.warm {X : po_X} {s U : State} (hW : s.WarmedH U.vm) (h : po_Txt X s) : po_Txt X U := by
  obtain ⟨adK, adV, h1, h2, h3, h4, h5, h6⟩ := h
  exact ⟨adK, adV, h1.moved hW.alike, fun q hq => (h2 q hq).warm hW, h3, h4, h5.moved hW.alike, h6.moved hW.alike⟩
theorem po_Txt.same {X : po_X} {u U : State} (hv : U.vm = u.vm) (h : po_Txt X u) : po_Txt X U := by
  have hA : u.vm.Alike U.vm := by rw [hv]; exact Vm.Alike.refl _
  obtain ⟨adK, adV, h1, h2, h3, h4, h5, h6⟩ := h
  exact ⟨adK, adV, h1.moved hA, fun q hq => (h2 q hq).same hv, h3, h4, h5.moved hA, h6.moved hA⟩
theorem po_AOA {t : FieldType} {u U : State} (hvm : u.vm.Alike U.vm) (h : (Cond.arrayOver (.array t)).before #[] u = true) : (Cond.arrayOver (.array t)).before #[] U = true := by
  have h : (Cond.arrayOver (.array t)).holds #[] u none u [] = true := h
  simp only [Cond.holds, Cond.value, beq_iff_eq] at h
  cases hc : u.vm.findClass (FieldType.array t).toString with
  | none => simp [hc] at h
  | some comp =>
    simp only [hc, Option.bind_some, Option.bind_eq_some_iff, Option.map_eq_some_iff] at h
    obtain ⟨c, hi0, k, hk, hb⟩ := h
    obtain ⟨k', hk', he⟩ := hvm.2.2 _ _ hk
    have hi : (U.vm.classes.findIdx? fun (x : Class) => match x.kind with | .array component _ => component == comp | _ => false) = some c := by
      have e1 := va_idx_bare U.vm comp
      have e2 := va_idx_bare u.vm comp
      have eb : U.vm.bare = u.vm.bare := by first | exact hvm.bare_eq | exact hvm.bare_eq.symm
      rw [eb] at e1
      exact e1.symm.trans (e2.trans hi0)
    have hkind : k'.kind = k.kind := by rw [he]
    have f1 : U.vm.findClass (FieldType.array t).toString = some comp := by rw [hvm.findClass]; exact hc
    have f2 : U.vm.findClass ("[" ++ (FieldType.array t).toString) = u.vm.findClass ("[" ++ (FieldType.array t).toString) := by rw [hvm.findClass]
    unfold Cond.before Cond.holds
    simp only [Cond.value]
    rw [f1, Option.bind_some]
    refine (congrArg (fun o : Option Nat => (o.bind (fun c => (U.vm.classes[c]?).map fun (k : Class) => match k.kind with | .array _ ty => decide (ty = FieldType.array t) && decide (U.vm.findClass ("[" ++ (FieldType.array t).toString) = some c) | _ => false) == some true)) hi).trans ?_
    cases hk0 : k.kind with
    | array component ty =>
      rw [hk0] at hb
      simp at hb
      simp [hk', hkind, hk0, f2, hb]
    | _ => rw [hk0] at hb; simp at hb
/-- words that a list of words can't be told, but that stay as they are all the same -/
def po_other (w : Cond) : Bool := match w with
  | .castable _ _ => true
  | .declares _ => true
  | .methodLinkNest _ _ _ _ => true
  | .arrayOver (.object _) => true
  | .arrayOver (.array _) => true
  | _ => false
def po_wt : List Cond := lw_tbl.filter po_other
theorem po_inT {w : Cond} (h : w ∈ tables_1) (hg : po_other w = true) : w ∈ po_wt := List.mem_filter.mpr ⟨List.mem_append_right _ h, hg⟩
theorem po_other.warm {w : Cond} {s U : State} (hW : s.WarmedH U.vm) (hw : po_other w = true) (h : w.before #[] s = true) : w.before #[] U = true := by
  unfold po_other at hw
  split at hw
  · exact va_Nw.warmC hW h
  · exact va_Nw.warmD hW h
  · exact va_Nw.warmM hW h
  · exact va_AO.moved hW.alike h
  · exact po_AOA hW.alike h
  · cases hw
theorem po_other.same {w : Cond} {u U : State} (hv : U.vm = u.vm) (hw : po_other w = true) (h : w.before #[] u = true) : w.before #[] U = true := by
  have hA : u.vm.Alike U.vm := by rw [hv]; exact Vm.Alike.refl _
  unfold po_other at hw
  split at hw
  · exact va_Nw.same rfl hv.symm h
  · exact va_Nw.same rfl hv.symm h
  · exact va_Nw.same rfl hv.symm h
  · exact va_AO.moved hA h
  · exact po_AOA hA h
  · cases hw
/-- what holds of the machine's tables and of the old heap, at any state of the run -/
def po_Ctx (X : po_X) (s : State) : Prop :=
  va_K X.1 pm_cls (po_tys X) s ∧ va_X X.2.2.2.1.1 X.2.2.2.1.2.1 X.2.2.2.1.2.2 s X.2.2.1 ∧ X.2.2.2.1.1 < po_b X ∧
  vx_Zq Bundle.tN "UNASSIGNED_STACK" Bundle.steD (po_A X) s X.2.2.1 ∧ vx_Zq Bundle.tN "SUPPRESSED_SENTINEL" Bundle.listD (po_A X) s X.2.2.1 ∧ po_Txt X s ∧
  (∀ w ∈ po_wt, w.before #[] s = true) ∧ va_Nc "java/lang/IllegalArgumentException" "java/util/NoSuchElementException" s
theorem po_Ctx.warm {X : po_X} {s U : State} (hW : s.WarmedH U.vm) (h : po_Ctx X s) : po_Ctx X U := by
  obtain ⟨h1, h2, h3, h4, h5, h6, h7, h8⟩ := h
  exact ⟨h1.moved hW.alike, h2.moved hW.alike, h3, h4.moved hW.alike, h5.moved hW.alike, h6.warm hW, fun w hw => po_other.warm hW (List.mem_filter.mp hw).2 (h7 w hw), h8.moved hW.alike⟩
theorem po_Ctx.same {X : po_X} {u U : State} (hv : U.vm = u.vm) (h : po_Ctx X u) : po_Ctx X U := by
  obtain ⟨h1, h2, h3, h4, h5, h6, h7, h8⟩ := h
  have hA : u.vm.Alike U.vm := by rw [hv]; exact Vm.Alike.refl _
  exact ⟨h1.moved hA, h2.moved hA, h3, h4.moved hA, h5.moved hA, h6.same hv, fun w hw => po_other.same hv (List.mem_filter.mp hw).2 (h7 w hw), h8.moved hA⟩
/-! the locals -/
def po_as (ls : List Value) : List (Nat × Value) := (List.range ls.length).filterMap (fun k => match (ls[k]? : Option Value) with
  | some (Value.retAddr _) => none
  | some v => some (k, v)
  | none => none)
def po_sure (v : Value) : Bool := match v with
  | .retAddr _ => false
  | _ => true
theorem po_as_mem {ls : List Value} {k : Nat} {v : Value} (h : ls[k]? = some v) (hs : po_sure v = true) : (k, v) ∈ po_as ls := by
  have hk : k < ls.length := (List.getElem?_eq_some_iff.mp h).1
  refine List.mem_filterMap.mpr ⟨k, List.mem_range.mpr hk, ?_⟩
  rw [h]
  cases v <;> first | rfl | cases hs
theorem po_as_of {ls : List Value} {k : Nat} {v : Value} (h : (k, v) ∈ po_as ls) : ls[k]? = some v := by
  obtain ⟨j, hj, e⟩ := List.mem_filterMap.mp h
  cases hz : ls[j]? with
  | none => rw [hz] at e; cases e
  | some w =>
    rw [hz] at e
    cases w <;> simp at e <;> (obtain ⟨rfl, rfl⟩ := e; exact hz)
def po_L (la : Array Slot) (nL : Nat) (ls : List Value) : Prop := ls.length = nL ∧ (∀ v ∈ ls, v.category = 1) ∧ lv_has la nL (po_as ls)
theorem po_L.at {la : Array Slot} {nL : Nat} {ls : List Value} (h : po_L la nL ls) {k : Nat} {v : Value} (hk : ls[k]? = some v) (hs : po_sure v = true) : la[k]? = some (.val v) := h.2.2.2.2 _ (po_as_mem hk hs)
theorem po_L.set {la la' : Array Slot} {nL : Nat} {ls : List Value} (h : po_L la nL ls) {i : Nat} {w : Value} (hw : w.category = 1) (hl : lv_has la' nL ((i, w) :: (po_as ls).filter (fun q => !(q.1 == i) && !(q.1 + 1 == i && q.2.category == 2)))) : po_L la' nL (ls.set i w) := by
  obtain ⟨h1, h2, h3⟩ := h
  refine ⟨by rw [List.length_set]; exact h1, fun v hv => ?_, hl.1, hl.2.1, fun q hq => ?_⟩
  · rcases List.mem_or_eq_of_mem_set hv with hv | rfl
    · exact h2 v hv
    · exact hw
  · obtain ⟨k, v⟩ := q
    have hk := po_as_of hq
    by_cases hki : i = k
    · subst hki
      have hlt : i < (ls.set i w).length := (List.getElem?_eq_some_iff.mp hk).1
      rw [List.getElem?_set_self (by simpa using hlt)] at hk
      cases hk
      exact hl.2.2 (i, w) List.mem_cons_self
    · have hk' : ls[k]? = some v := by rw [List.getElem?_set_ne hki] at hk; exact hk
      have hs : po_sure v = true := by
        obtain ⟨j, hj, e⟩ := List.mem_filterMap.mp hq
        cases hz : (ls.set i w)[j]? with
        | none => rw [hz] at e; cases e
        | some z =>
          rw [hz] at e
          cases z <;> simp at e <;> (obtain ⟨-, rfl⟩ := e; rfl)
      have hc : v.category = 1 := h2 v (List.mem_of_getElem? hk')
      refine hl.2.2 (k, v) (List.mem_cons_of_mem _ (List.mem_filter.mpr ⟨po_as_mem hk' hs, ?_⟩))
      have hne : (k == i) = false := by simpa using fun z => hki z.symm
      simp [hne, hc]
/-- a local of which nothing is known any more -/
theorem po_L.drop {la : Array Slot} {nL : Nat} {ls : List Value} (h : po_L la nL ls) (i : Nat) : po_L la nL (ls.set i (.retAddr 0)) := by
  obtain ⟨h1, h2, h3⟩ := h
  refine ⟨by rw [List.length_set]; exact h1, fun v hv => ?_, h3.1, h3.2.1, fun q hq => ?_⟩
  · rcases List.mem_or_eq_of_mem_set hv with hv | rfl
    · exact h2 v hv
    · rfl
  · obtain ⟨k, v⟩ := q
    have hk := po_as_of hq
    by_cases hki : i = k
    · subst hki
      have hlt : i < (ls.set i (.retAddr 0)).length := (List.getElem?_eq_some_iff.mp hk).1
      rw [List.getElem?_set_self (by simpa using hlt)] at hk
      cases hk
      obtain ⟨j, hj, e⟩ := List.mem_filterMap.mp hq
      cases hz : (ls.set i (.retAddr 0))[j]? with
      | none => rw [hz] at e; cases e
      | some z =>
        rw [hz] at e
        cases z <;> simp at e
    · have hk' : ls[k]? = some v := by rw [List.getElem?_set_ne hki] at hk; exact hk
      have hs : po_sure v = true := by
        obtain ⟨j, hj, e⟩ := List.mem_filterMap.mp hq
        cases hz : (ls.set i (.retAddr 0))[j]? with
        | none => rw [hz] at e; cases e
        | some z =>
          rw [hz] at e
          cases z <;> simp at e <;> (obtain ⟨-, rfl⟩ := e; rfl)
      exact h3.2.2 (k, v) (po_as_mem hk' hs)
