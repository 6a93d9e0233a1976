/-! WHERE A THROWN CLASS IS CAUGHT; trees of steps -/
section PCA
variable {own : String} {cc : ByteArray} {nL pc : Nat} {ini : Bool} {tbl : List (Nat × Nat × Nat × Nat)}
/-- what a table does with a thrown class at pc: goes to the sign behind the handler's astore of local k -/
def po_Ca (own : String) (cc : ByteArray) (nL : Nat) (ini : Bool) (tbl : List (Nat × Nat × Nat × Nat)) (pc : Nat) (E : String) (nx k : Nat) : Prop := ∀ (ls : List Value) (X : po_X) (p : Program) (l : Launch) (e : Env) (R : Room) (s : State) (m : MethodId) (args : Array Value) (below : List Frame) (meth : Method) (c : Code) (h0 h : pm_H) (Q : State → Prop),
      po_At X p l R s m args meth c h0 own cc nL ini → c.exceptionTable.toList = tableOf tbl → po_Sim X p l e R s m args below meth c h0 nL Q nx (ls.set k (.retAddr 0)) [] h →
      ∀ (H : Heap) (locs : List Loc) (la : Array Slot) (rest : List Value) (ce : Cell) (q9 : Addr), po_L la nL ls → po_Rep X h H locs → H[q9]? = some ce → ce.vm = .none → s.vm.findClass E = some ce.cls →
        vx_W p l e R s m args below meth c H locs (pm_cells h - pm_cells h0) (pm_slots h - pm_slots h0) Q (F0 m pc la rest) q9
theorem po_catch {E : String} {pre suf : List ExceptionTableEntry} {x : ExceptionTableEntry} {k nx : Nat} (hsplit : tableOf tbl = pre ++ x :: suf)
    (hpass : ∀ z ∈ pre, z.catchType ≠ 0 ∧ Cond.classLink own z.catchType "java/util/NoSuchElementException" ∈ po_ws ∧ E = "java/lang/IllegalArgumentException") (hx : covers x pc = true) (h0 : x.catchType ≠ 0) (hlink : Cond.classLink own x.catchType E ∈ po_ws) (hcast : Cond.castable E E ∈ po_wt)
    (hd : (∃ kf : Fin 4, decode cc x.handlerPc = .ok (.astore_n kf, 1) ∧ (kf : Nat) = k ∧ nx = x.handlerPc + 1) ∨ (decode cc x.handlerPc = .ok (.astore k, 2) ∧ nx = x.handlerPc + 2)) (hn : k < nL) : po_Ca own cc nL ini tbl pc E nx k := by
  intro ls X p l e R s m args below meth c h0' h Q hat ht hsim H locs la rest ce q9 hL hR hce hcv hcl
  have hts := hat.2.2.2.2.1
  have hC := hat.2.2.2.2.2.2.1
  refine vx_catch hat.2.2.2.1 pre x suf (ht.trans hsplit) (fun z hz => ?_) hx h0 (hts _ hlink) (po_other.args rfl (hC.2.2.2.2.2.2.1 _ hcast)) hce hcv hcl ?_
  · obtain ⟨p1, p2, rfl⟩ := hpass z hz
    exact Or.inr ⟨p1, _, hts _ p2, hC.2.2.2.2.2.2.2⟩
  · have fin : ∀ la', lv_has la' nL ((k, .ref q9) :: (po_as ls).filter (fun q => !(q.1 == k) && !(q.1 + 1 == k && q.2.category == 2))) → po_L la' nL (ls.set k (.retAddr 0)) := fun la' hl => by
      have := (hL.set (w := .ref q9) rfl hl).drop k
      rwa [List.set_set] at this
    rcases hd with ⟨kf, d1, d2, rfl⟩ | ⟨d1, rfl⟩
    · exact lv_astore_n hat.1 hat.2.1 d1 d2 hL.2.2 hn rfl fun la' hl => hsim H locs la' (fin la' hl) hR
    · exact lv_astore hat.1 hat.2.1 d1 hL.2.2 hn rfl fun la' hl => hsim H locs la' (fin la' hl) hR
def po_h1 (E : String) (nx k : Nat) : List Value → String → Option (Nat × List Value) := fun ls F => if F = E then some (nx, ls.set k (.retAddr 0)) else some (9999, [])
def po_h2 (E : String) (nx k : Nat) (E2 : String) (nx2 k2 : Nat) : List Value → String → Option (Nat × List Value) := fun ls F => if F = E then some (nx, ls.set k (.retAddr 0)) else if F = E2 then some (nx2, ls.set k2 (.retAddr 0)) else some (9999, [])
theorem po_Hd1 {E : String} {nx k : Nat} (h : po_Ca own cc nL ini tbl pc E nx k) (ls : List Value) : po_Hd own cc nL ini tbl pc ls (po_h1 E nx k ls) := by
  intro F
  unfold po_h1
  by_cases hF : F = E
  · subst hF
    rw [if_pos rfl]
    refine ⟨fun z => (by cases z), fun q hq => ?_⟩
    cases hq
    exact Or.inr (h ls)
  · rw [if_neg hF]
    refine ⟨fun z => (by cases z), fun q hq => ?_⟩
    cases hq
    exact Or.inl rfl
theorem po_Hd2 {E E2 : String} {nx k nx2 k2 : Nat} (h : po_Ca own cc nL ini tbl pc E nx k) (h2 : po_Ca own cc nL ini tbl pc E2 nx2 k2) (ls : List Value) : po_Hd own cc nL ini tbl pc ls (po_h2 E nx k E2 nx2 k2 ls) := by
  intro F
  unfold po_h2
  by_cases hF : F = E
  · subst hF
    rw [if_pos rfl]
    refine ⟨fun z => (by cases z), fun q hq => ?_⟩
    cases hq
    exact Or.inr (h ls)
  · rw [if_neg hF]
    by_cases hF2 : F = E2
    · subst hF2
      rw [if_pos rfl]
      refine ⟨fun z => (by cases z), fun q hq => ?_⟩
      cases hq
      exact Or.inr (h2 ls)
    · rw [if_neg hF2]
      refine ⟨fun z => (by cases z), fun q hq => ?_⟩
      cases hq
      exact Or.inl rfl
/-- a table of places by a number -/
def ps_tgt (lo hi : Int) (tg : List Nat) (dflt : Nat) (x : Int32) : Nat := if x.toInt < lo ∨ hi < x.toInt then dflt else tg.getD (x.toInt - lo).toNat 0
theorem po_tableL {dflt lo hi : Int} {offs : Array Int} {len dn : Nat} {tg : List Nat} (hd : decode cc pc = .ok (.tableswitch dflt lo hi offs, len)) (h1 : (pc : Int) + dflt = (dn : Int)) (h2 : hi - lo + 1 = tg.length) (h3 : ∀ j, j < tg.length → offs[j]? = some ((tg.getD j 0 : Int) - (pc : Int))) : po_N own cc nL ini pc (ps_switch (ps_tgt lo hi tg dn)) := by
  refine po_table hd fun x => ⟨fun q => ?_, fun q1 q2 => ?_⟩
  · unfold ps_tgt
    rw [if_pos q]
    exact h1
  · unfold ps_tgt
    rw [if_neg (by omega)]
    exact ⟨_, h3 _ (by omega), by omega⟩
theorem po_okC : po_ok ps_okC .char := fun v h => by
  cases v <;> first | cases h | skip
  rename_i x
  simp only [ps_okC, Bool.and_eq_true, decide_eq_true_eq] at h
  obtain ⟨j, hj, rfl⟩ := nI_of (po_neg h.1)
  have h2 := h.2
  rw [nI_toInt hj] at h2
  exact pk_charN (q := j) (by omega)
theorem po_okB : po_ok ps_okZ .byte := fun v h => by
  cases v <;> first | cases h | skip
  rename_i x
  simp only [ps_okZ, Bool.or_eq_true, beq_iff_eq] at h
  rcases h with rfl | rfl <;> exact ⟨by decide, by decide⟩
end PCA
/-- trees of steps by their places -/
def pt_leaf (k : Nat) (f : pm_S) : Nat → Option pm_S := fun pc => if pc = k then some f else none
def pt_node (m : Nat) (a b : Nat → Option pm_S) : Nat → Option pm_S := fun pc => if pc < m then a pc else b pc
theorem pt_leaf_ok {P : Nat → pm_S → Prop} {k : Nat} {f : pm_S} (h : P k f) : ∀ pc g, pt_leaf k f pc = some g → P pc g := by
  intro pc g hg
  unfold pt_leaf at hg
  split at hg
  · rename_i e
    subst e
    cases hg
    exact h
  · cases hg
theorem pt_node_ok {P : Nat → pm_S → Prop} {m : Nat} {a b : Nat → Option pm_S} (ha : ∀ pc g, a pc = some g → P pc g) (hb : ∀ pc g, b pc = some g → P pc g) : ∀ pc g, pt_node m a b pc = some g → P pc g := by
  intro pc g hg
  unfold pt_node at hg
  split at hg
  · exact ha pc g hg
  · exact hb pc g hg
def po_Stp (md : Nat → po_M) (own : String) (cc : ByteArray) (nL : Nat) (ini : Bool) (ret : Option FieldType) (tbl : List (Nat × Nat × Nat × Nat)) (pc : Nat) (f : pm_S) : Prop :=
  po_N own cc nL ini pc f ∨ po_C md own cc nL ini tbl pc f ∨ (po_E own cc nL ini ret pc f ∧ (tbl = [] ∨ ∀ ls st h q, f ls st h = some (.inr (.inr q)) → ∃ v, q.1 = .inl v))
theorem po_retV {ok : Value → Bool} (ls st : List Value) (h : pm_H) (q : pm_O × pm_H) (e : ps_ireturn ok ls st h = some (.inr (.inr q))) : ∃ v, q.1 = .inl v := by
  simp only [ps_ireturn] at e
  split at e
  · split at e
    · simp only [pm_fin, Option.some.injEq, Sum.inr.injEq] at e
      rw [← e]
      exact ⟨_, rfl⟩
    · cases e
  · cases e
