/-! EACH STEP OF THE PURE MACHINE IS THE MACHINE'S: those that go on in the same frame -/
def po_J (h h' : pm_H) : Prop := pm_cells h ≤ pm_cells h' ∧ pm_slots h ≤ pm_slots h' ∧ pm_gap h ≤ pm_gap h'
theorem po_J.rf {h : pm_H} : po_J h h := ⟨Nat.le_refl _, Nat.le_refl _, Nat.le_refl _⟩
theorem po_J.tr {h1 h2 h3 : pm_H} (a : po_J h1 h2) (b : po_J h2 h3) : po_J h1 h3 := ⟨Nat.le_trans a.1 b.1, Nat.le_trans a.2.1 b.2.1, Nat.le_trans a.2.2 b.2.2⟩
/-- what a method's body knows of its frame; h0: the pure heap at its entry -/
def po_At (X : po_X) (p : Program) (l : Launch) (R : Room) (s : State) (m : MethodId) (args : Array Value) (meth : Method) (c : Code) (h0 : pm_H) (own : String) (cc : ByteArray) (nL : Nat) (ini : Bool) : Prop :=
  p.tables.exec = Jvm.exec ∧ c.code = cc ∧ c.maxLocals = nL ∧ s.vm.findClass own = some m.cls ∧ (∀ w ∈ po_ws, w.before args s = true) ∧ meth.locks = false ∧ po_Ctx X s ∧ va_S (po_A X) X.2.2.1 s.heap [] ∧
  (pm_gap h0 = 0 → s.heap.size = pm_size h0) ∧ pm_size h0 + pm_gap h0 = po_b X + pm_cells h0 ∧ l.stackTraces = false ∧ 6 ≤ R.frames ∧ 200 ≤ R.locals ∧ (ini = true → meth.name = "<init>")
def po_Sim (X : po_X) (p : Program) (l : Launch) (e : Env) (R : Room) (s : State) (m : MethodId) (args : Array Value) (below : List Frame) (meth : Method) (c : Code) (h0 : pm_H) (nL : Nat) (Q : State → Prop) (pc : Nat) (ls st : List Value) (h : pm_H) : Prop :=
  ∀ (H : Heap) (locs : List Loc) (la : Array Slot), po_L la nL ls → po_Rep X h H locs → W p l e R s m args below meth c H locs (pm_cells h - pm_cells h0) (pm_slots h - pm_slots h0) Q (F0 m pc la st)
/-- a step that goes on in the same frame -/
def po_N (own : String) (cc : ByteArray) (nL : Nat) (ini : Bool) (pc : Nat) (f : pm_S) : Prop := ∀ (ls st : List Value) (h : pm_H) (r : pm_F ⊕ (pm_K ⊕ (pm_O × pm_H))), f ls st h = some r → ∃ g : pm_F, r = .inl g ∧ po_J h g.2.2.2 ∧
  ∀ (X : po_X) (p : Program) (l : Launch) (e : Env) (R : Room) (s : State) (m : MethodId) (args : Array Value) (below : List Frame) (meth : Method) (c : Code) (h0 : pm_H) (Q : State → Prop),
    po_At X p l R s m args meth c h0 own cc nL ini → po_J h0 h → pm_cells g.2.2.2 - pm_cells h0 ≤ R.cells → pm_slots g.2.2.2 - pm_slots h0 ≤ R.slots →
    po_Sim X p l e R s m args below meth c h0 nL Q g.1 g.2.1 g.2.2.1 g.2.2.2 → po_Sim X p l e R s m args below meth c h0 nL Q pc ls st h
section PO
variable {own : String} {cc : ByteArray} {nL pc : Nat} {ini : Bool}
theorem po_iconst {n : Int} {v : Int32} (hd : decode cc pc = .ok (.iconst n, 1)) (hv : Int32.ofInt n = v) : po_N own cc nL ini pc (ps_push v (pc + 1)) := by
  intro ls st h r hf
  simp only [ps_push, pm_next, Option.some.injEq] at hf
  subst hf
  exact ⟨_, rfl, po_J.rf, fun X p l e R s m args below meth c h0 Q hat hj hc hs k H locs la hL hR => lv_iconst hat.1 hat.2.1 hd hv (k H locs la hL hR)⟩
theorem po_bipush {n : Int} {v : Int32} (hd : decode cc pc = .ok (.bipush n, 2)) (hv : (Int8.ofInt n).toInt32 = v) : po_N own cc nL ini pc (ps_push v (pc + 2)) := by
  intro ls st h r hf
  simp only [ps_push, pm_next, Option.some.injEq] at hf
  subst hf
  exact ⟨_, rfl, po_J.rf, fun X p l e R s m args below meth c h0 Q hat hj hc hs k H locs la hL hR => lv_bipush hat.1 hat.2.1 hd hv (k H locs la hL hR)⟩
theorem po_sipush {n : Int} {v : Int32} (hd : decode cc pc = .ok (.sipush n, 3)) (hv : (Int16.ofInt n).toInt32 = v) : po_N own cc nL ini pc (ps_push v (pc + 3)) := by
  intro ls st h r hf
  simp only [ps_push, pm_next, Option.some.injEq] at hf
  subst hf
  exact ⟨_, rfl, po_J.rf, fun X p l e R s m args below meth c h0 Q hat hj hc hs k H locs la hL hR => lv_sipush hat.1 hat.2.1 hd hv (k H locs la hL hR)⟩
theorem po_iload_n {k : Fin 4} {i : Nat} (hd : decode cc pc = .ok (.iload_n k, 1)) (hi : (k : Nat) = i) : po_N own cc nL ini pc (ps_iload i (pc + 1)) := by
  intro ls st h r hf
  simp only [ps_iload] at hf
  split at hf
  · rename_i x hx
    simp only [pm_next, Option.some.injEq] at hf
    subst hf
    exact ⟨_, rfl, po_J.rf, fun X p l e R s m args below meth c h0 Q hat hj hc hs k H locs la hL hR => lv_iload_n hat.1 hat.2.1 hd hi (hL.at hx rfl) (k H locs la hL hR)⟩
  · cases hf
theorem po_iload {i : Nat} (hd : decode cc pc = .ok (.iload i, 2)) : po_N own cc nL ini pc (ps_iload i (pc + 2)) := by
  intro ls st h r hf
  simp only [ps_iload] at hf
  split at hf
  · rename_i x hx
    simp only [pm_next, Option.some.injEq] at hf
    subst hf
    exact ⟨_, rfl, po_J.rf, fun X p l e R s m args below meth c h0 Q hat hj hc hs k H locs la hL hR => lv_iload hat.1 hat.2.1 hd (hL.at hx rfl) (k H locs la hL hR)⟩
  · cases hf
theorem po_aload_n {k : Fin 4} {i : Nat} (hd : decode cc pc = .ok (.aload_n k, 1)) (hi : (k : Nat) = i) : po_N own cc nL ini pc (ps_aload i (pc + 1)) := by
  intro ls st h r hf
  simp only [ps_aload] at hf
  split at hf
  · rename_i x hx
    simp only [pm_next, Option.some.injEq] at hf
    subst hf
    exact ⟨_, rfl, po_J.rf, fun X p l e R s m args below meth c h0 Q hat hj hc hs k H locs la hL hR => lv_aload_n hat.1 hat.2.1 hd hi (hL.at hx rfl) (k H locs la hL hR)⟩
  · cases hf
theorem po_aload {i : Nat} (hd : decode cc pc = .ok (.aload i, 2)) : po_N own cc nL ini pc (ps_aload i (pc + 2)) := by
  intro ls st h r hf
  simp only [ps_aload] at hf
  split at hf
  · rename_i x hx
    simp only [pm_next, Option.some.injEq] at hf
    subst hf
    exact ⟨_, rfl, po_J.rf, fun X p l e R s m args below meth c h0 Q hat hj hc hs k H locs la hL hR => lv_aload hat.1 hat.2.1 hd (hL.at hx rfl) (k H locs la hL hR)⟩
  · cases hf
theorem po_istore_n {k : Fin 4} {i : Nat} (hd : decode cc pc = .ok (.istore_n k, 1)) (hi : (k : Nat) = i) (hn : i < nL) : po_N own cc nL ini pc (ps_istore i (pc + 1)) := by
  intro ls st h r hf
  simp only [ps_istore] at hf
  split at hf
  · simp only [pm_next, Option.some.injEq] at hf
    subst hf
    exact ⟨_, rfl, po_J.rf, fun X p l e R s m args below meth c h0 Q hat hj hc hs k H locs la hL hR => lv_istore_n hat.1 hat.2.1 hd hi hL.2.2 hn rfl fun la' hl => k H locs la' (hL.set rfl hl) hR⟩
  · cases hf
theorem po_istore {i : Nat} (hd : decode cc pc = .ok (.istore i, 2)) (hn : i < nL) : po_N own cc nL ini pc (ps_istore i (pc + 2)) := by
  intro ls st h r hf
  simp only [ps_istore] at hf
  split at hf
  · simp only [pm_next, Option.some.injEq] at hf
    subst hf
    exact ⟨_, rfl, po_J.rf, fun X p l e R s m args below meth c h0 Q hat hj hc hs k H locs la hL hR => lv_istore hat.1 hat.2.1 hd hL.2.2 hn rfl fun la' hl => k H locs la' (hL.set rfl hl) hR⟩
  · cases hf
theorem po_astore_n {k : Fin 4} {i : Nat} (hd : decode cc pc = .ok (.astore_n k, 1)) (hi : (k : Nat) = i) (hn : i < nL) : po_N own cc nL ini pc (ps_astore i (pc + 1)) := by
  intro ls st h r hf
  simp only [ps_astore] at hf
  split at hf
  · simp only [pm_next, Option.some.injEq] at hf
    subst hf
    exact ⟨_, rfl, po_J.rf, fun X p l e R s m args below meth c h0 Q hat hj hc hs k H locs la hL hR => lv_astore_n hat.1 hat.2.1 hd hi hL.2.2 hn rfl fun la' hl => k H locs la' (hL.set rfl hl) hR⟩
  · cases hf
theorem po_astore {i : Nat} (hd : decode cc pc = .ok (.astore i, 2)) (hn : i < nL) : po_N own cc nL ini pc (ps_astore i (pc + 2)) := by
  intro ls st h r hf
  simp only [ps_astore] at hf
  split at hf
  · simp only [pm_next, Option.some.injEq] at hf
    subst hf
    exact ⟨_, rfl, po_J.rf, fun X p l e R s m args below meth c h0 Q hat hj hc hs k H locs la hL hR => lv_astore hat.1 hat.2.1 hd hL.2.2 hn rfl fun la' hl => k H locs la' (hL.set rfl hl) hR⟩
  · cases hf
theorem po_iinc {i : Nat} {n : Int} {v : Int32} (hd : decode cc pc = .ok (.iinc i n, 3)) (hv : Int32.ofInt n = v) (hn : i < nL) : po_N own cc nL ini pc (ps_iinc i v (pc + 3)) := by
  intro ls st h r hf
  simp only [ps_iinc] at hf
  split at hf
  · rename_i x hx
    simp only [pm_next, Option.some.injEq] at hf
    subst hf
    refine ⟨_, rfl, po_J.rf, fun X p l e R s m args below meth c h0 Q hat hj hc hs k H locs la hL hR => ?_⟩
    obtain ⟨j, hjj⟩ := List.getElem?_of_mem (po_as_mem hx rfl)
    exact lv_iinc (k := j) hat.1 hat.2.1 hd hL.2.2 hjj (by rw [hv]) hn rfl fun la' hl => k H locs la' (hL.set rfl hl) hR
  · cases hf
theorem po_iadd (hd : decode cc pc = .ok (.iadd, 1)) : po_N own cc nL ini pc (ps_bin (fun x y => x + y) (pc + 1)) := by
  intro ls st h r hf
  simp only [ps_bin] at hf
  split at hf
  · simp only [pm_next, Option.some.injEq] at hf
    subst hf
    exact ⟨_, rfl, po_J.rf, fun X p l e R s m args below meth c h0 Q hat hj hc hs k H locs la hL hR => lv_iadd hat.1 hat.2.1 hd (k H locs la hL hR)⟩
  · cases hf
theorem po_isub (hd : decode cc pc = .ok (.isub, 1)) : po_N own cc nL ini pc (ps_bin (fun x y => x - y) (pc + 1)) := by
  intro ls st h r hf
  simp only [ps_bin] at hf
  split at hf
  · simp only [pm_next, Option.some.injEq] at hf
    subst hf
    exact ⟨_, rfl, po_J.rf, fun X p l e R s m args below meth c h0 Q hat hj hc hs k H locs la hL hR => lv_isub hat.1 hat.2.1 hd (k H locs la hL hR)⟩
  · cases hf
theorem po_imul (hd : decode cc pc = .ok (.imul, 1)) : po_N own cc nL ini pc (ps_bin (fun x y => x * y) (pc + 1)) := by
  intro ls st h r hf
  simp only [ps_bin] at hf
  split at hf
  · simp only [pm_next, Option.some.injEq] at hf
    subst hf
    exact ⟨_, rfl, po_J.rf, fun X p l e R s m args below meth c h0 Q hat hj hc hs k H locs la hL hR => lv_imul hat.1 hat.2.1 hd (k H locs la hL hR)⟩
  · cases hf
theorem po_iand (hd : decode cc pc = .ok (.iand, 1)) : po_N own cc nL ini pc (ps_bin (fun x y => x &&& y) (pc + 1)) := by
  intro ls st h r hf
  simp only [ps_bin] at hf
  split at hf
  · simp only [pm_next, Option.some.injEq] at hf
    subst hf
    exact ⟨_, rfl, po_J.rf, fun X p l e R s m args below meth c h0 Q hat hj hc hs k H locs la hL hR => lv_iand hat.1 hat.2.1 hd (k H locs la hL hR)⟩
  · cases hf
theorem po_ior (hd : decode cc pc = .ok (.ior, 1)) : po_N own cc nL ini pc (ps_bin (fun x y => x ||| y) (pc + 1)) := by
  intro ls st h r hf
  simp only [ps_bin] at hf
  split at hf
  · simp only [pm_next, Option.some.injEq] at hf
    subst hf
    exact ⟨_, rfl, po_J.rf, fun X p l e R s m args below meth c h0 Q hat hj hc hs k H locs la hL hR => lv_ior hat.1 hat.2.1 hd (k H locs la hL hR)⟩
  · cases hf
theorem po_ixor (hd : decode cc pc = .ok (.ixor, 1)) : po_N own cc nL ini pc (ps_bin (fun x y => x ^^^ y) (pc + 1)) := by
  intro ls st h r hf
  simp only [ps_bin] at hf
  split at hf
  · simp only [pm_next, Option.some.injEq] at hf
    subst hf
    exact ⟨_, rfl, po_J.rf, fun X p l e R s m args below meth c h0 Q hat hj hc hs k H locs la hL hR => lv_ixor hat.1 hat.2.1 hd (k H locs la hL hR)⟩
  · cases hf
theorem po_ishl (hd : decode cc pc = .ok (.ishl, 1)) : po_N own cc nL ini pc (ps_bin (fun x y => x <<< (y &&& 31)) (pc + 1)) := by
  intro ls st h r hf
  simp only [ps_bin] at hf
  split at hf
  · simp only [pm_next, Option.some.injEq] at hf
    subst hf
    exact ⟨_, rfl, po_J.rf, fun X p l e R s m args below meth c h0 Q hat hj hc hs k H locs la hL hR => lv_ishl hat.1 hat.2.1 hd (k H locs la hL hR)⟩
  · cases hf
theorem po_ishr (hd : decode cc pc = .ok (.ishr, 1)) : po_N own cc nL ini pc (ps_bin (fun x y => x >>> (y &&& 31)) (pc + 1)) := by
  intro ls st h r hf
  simp only [ps_bin] at hf
  split at hf
  · simp only [pm_next, Option.some.injEq] at hf
    subst hf
    exact ⟨_, rfl, po_J.rf, fun X p l e R s m args below meth c h0 Q hat hj hc hs k H locs la hL hR => lv_ishr hat.1 hat.2.1 hd (k H locs la hL hR)⟩
  · cases hf
theorem po_iushr (hd : decode cc pc = .ok (.iushr, 1)) : po_N own cc nL ini pc (ps_bin (fun x y => (x.toUInt32 >>> (y.toUInt32 &&& Int32.toUInt32 31)).toInt32) (pc + 1)) := by
  intro ls st h r hf
  simp only [ps_bin] at hf
  split at hf
  · simp only [pm_next, Option.some.injEq] at hf
    subst hf
    exact ⟨_, rfl, po_J.rf, fun X p l e R s m args below meth c h0 Q hat hj hc hs k H locs la hL hR => lv_iushr hat.1 hat.2.1 hd rfl (k H locs la hL hR)⟩
  · cases hf
theorem po_idiv (hd : decode cc pc = .ok (.idiv, 1)) : po_N own cc nL ini pc (ps_div (pc + 1)) := by
  intro ls st h r hf
  simp only [ps_div] at hf
  split at hf
  · split at hf
    · cases hf
    · rename_i hne
      simp only [pm_next, Option.some.injEq] at hf
      subst hf
      exact ⟨_, rfl, po_J.rf, fun X p l e R s m args below meth c h0 Q hat hj hc hs k H locs la hL hR => lv_idiv hat.1 hat.2.1 hd hne (k H locs la hL hR)⟩
  · cases hf
theorem po_irem (hd : decode cc pc = .ok (.irem, 1)) : po_N own cc nL ini pc (ps_rem (pc + 1)) := by
  intro ls st h r hf
  simp only [ps_rem] at hf
  split at hf
  · split at hf
    · cases hf
    · rename_i hne
      simp only [pm_next, Option.some.injEq] at hf
      subst hf
      exact ⟨_, rfl, po_J.rf, fun X p l e R s m args below meth c h0 Q hat hj hc hs k H locs la hL hR => lv_irem hat.1 hat.2.1 hd hne (k H locs la hL hR)⟩
  · cases hf
theorem po_ineg (hd : decode cc pc = .ok (.ineg, 1)) : po_N own cc nL ini pc (ps_un (fun x => -x) (pc + 1)) := by
  intro ls st h r hf
  simp only [ps_un] at hf
  split at hf
  · simp only [pm_next, Option.some.injEq] at hf
    subst hf
    exact ⟨_, rfl, po_J.rf, fun X p l e R s m args below meth c h0 Q hat hj hc hs k H locs la hL hR => lv_ineg hat.1 hat.2.1 hd (k H locs la hL hR)⟩
  · cases hf
theorem po_i2c (hd : decode cc pc = .ok (.i2c, 1)) : po_N own cc nL ini pc (ps_un (fun x => (x.toUInt32 % 65536).toInt32) (pc + 1)) := by
  intro ls st h r hf
  simp only [ps_un] at hf
  split at hf
  · simp only [pm_next, Option.some.injEq] at hf
    subst hf
    exact ⟨_, rfl, po_J.rf, fun X p l e R s m args below meth c h0 Q hat hj hc hs k H locs la hL hR => lv_i2c hat.1 hat.2.1 hd rfl (k H locs la hL hR)⟩
  · cases hf
theorem po_i2l (hd : decode cc pc = .ok (.i2l, 1)) : po_N own cc nL ini pc (ps_i2l (pc + 1)) := by
  intro ls st h r hf
  simp only [ps_i2l] at hf
  split at hf
  · simp only [pm_next, Option.some.injEq] at hf
    subst hf
    exact ⟨_, rfl, po_J.rf, fun X p l e R s m args below meth c h0 Q hat hj hc hs k H locs la hL hR => lv_i2l hat.1 hat.2.1 hd rfl (k H locs la hL hR)⟩
  · cases hf
theorem po_lcmp (hd : decode cc pc = .ok (.lcmp, 1)) : po_N own cc nL ini pc (ps_lcmp (pc + 1)) := by
  intro ls st h r hf
  simp only [ps_lcmp] at hf
  split at hf
  · simp only [pm_next, Option.some.injEq] at hf
    subst hf
    exact ⟨_, rfl, po_J.rf, fun X p l e R s m args below meth c h0 Q hat hj hc hs k H locs la hL hR => W.lcmp hat.1 hat.2.1 hd (k H locs la hL hR)⟩
  · cases hf
theorem po_dup (hd : decode cc pc = .ok (.dup, 1)) : po_N own cc nL ini pc (ps_dup (pc + 1)) := by
  intro ls st h r hf
  simp only [ps_dup] at hf
  split at hf
  · split at hf
    · rename_i hc1
      simp only [pm_next, Option.some.injEq] at hf
      subst hf
      exact ⟨_, rfl, po_J.rf, fun X p l e R s m args below meth c h0 Q hat hj hc hs k H locs la hL hR => lv_dup hat.1 hat.2.1 hd hc1 (k H locs la hL hR)⟩
    · cases hf
  · cases hf
theorem po_pop (hd : decode cc pc = .ok (.pop, 1)) : po_N own cc nL ini pc (ps_pop (pc + 1)) := by
  intro ls st h r hf
  simp only [ps_pop] at hf
  split at hf
  · split at hf
    · rename_i hc1
      simp only [pm_next, Option.some.injEq] at hf
      subst hf
      exact ⟨_, rfl, po_J.rf, fun X p l e R s m args below meth c h0 Q hat hj hc hs k H locs la hL hR => lv_pop hat.1 hat.2.1 hd hc1 (k H locs la hL hR)⟩
    · cases hf
  · cases hf
theorem po_dup2 (hd : decode cc pc = .ok (.dup2, 1)) : po_N own cc nL ini pc (ps_dup2 (pc + 1)) := by
  intro ls st h r hf
  simp only [ps_dup2] at hf
  split at hf
  · split at hf
    · rename_i hc1
      simp only [pm_next, Option.some.injEq] at hf
      subst hf
      exact ⟨_, rfl, po_J.rf, fun X p l e R s m args below meth c h0 Q hat hj hc hs k H locs la hL hR => lv_dup2_11 hat.1 hat.2.1 hd hc1.1 hc1.2 (k H locs la hL hR)⟩
    · cases hf
  · cases hf
theorem po_goto {off : Int} {tgt : Nat} (hd : decode cc pc = .ok (.goto off, 3)) (ht : (pc : Int) + off = (tgt : Int)) : po_N own cc nL ini pc (ps_goto tgt) := by
  intro ls st h r hf
  simp only [ps_goto, pm_next, Option.some.injEq] at hf
  subst hf
  exact ⟨_, rfl, po_J.rf, fun X p l e R s m args below meth c h0 Q hat hj hc hs k H locs la hL hR => lv_goto hat.1 hat.2.1 hd ht (k H locs la hL hR)⟩
theorem po_if_eq {off : Int} {tgt : Nat} (hd : decode cc pc = .ok (.ifCond .eq off, 3)) (ht : (pc : Int) + off = (tgt : Int)) : po_N own cc nL ini pc (ps_if (fun x => x == 0) tgt (pc + 3)) := by
  intro ls st h r hf
  simp only [ps_if] at hf
  split at hf
  · split at hf <;> rename_i hc1 <;> simp only [pm_next, Option.some.injEq] at hf <;> subst hf
    · exact ⟨_, rfl, po_J.rf, fun X p l e R s m args below meth c h0 Q hat hj hc hs k H locs la hL hR => lv_if_eq hat.1 hat.2.1 hd ht (fun _ => k H locs la hL hR) (fun z => absurd hc1 (by simp at z ⊢; exact z))⟩
    · exact ⟨_, rfl, po_J.rf, fun X p l e R s m args below meth c h0 Q hat hj hc hs k H locs la hL hR => lv_if_eq hat.1 hat.2.1 hd ht (fun z => absurd (by simp at z ⊢; exact z) hc1) (fun _ => k H locs la hL hR)⟩
  · cases hf
theorem po_if_ne {off : Int} {tgt : Nat} (hd : decode cc pc = .ok (.ifCond .ne off, 3)) (ht : (pc : Int) + off = (tgt : Int)) : po_N own cc nL ini pc (ps_if (fun x => x != 0) tgt (pc + 3)) := by
  intro ls st h r hf
  simp only [ps_if] at hf
  split at hf
  · split at hf <;> rename_i hc1 <;> simp only [pm_next, Option.some.injEq] at hf <;> subst hf
    · exact ⟨_, rfl, po_J.rf, fun X p l e R s m args below meth c h0 Q hat hj hc hs k H locs la hL hR => lv_if_ne hat.1 hat.2.1 hd ht (fun _ => k H locs la hL hR) (fun z => absurd hc1 (by simp at z ⊢; exact z))⟩
    · exact ⟨_, rfl, po_J.rf, fun X p l e R s m args below meth c h0 Q hat hj hc hs k H locs la hL hR => lv_if_ne hat.1 hat.2.1 hd ht (fun z => absurd (by simp at z ⊢; exact z) hc1) (fun _ => k H locs la hL hR)⟩
  · cases hf
theorem po_if_lt {off : Int} {tgt : Nat} (hd : decode cc pc = .ok (.ifCond .lt off, 3)) (ht : (pc : Int) + off = (tgt : Int)) : po_N own cc nL ini pc (ps_if (fun x => decide (x < 0)) tgt (pc + 3)) := by
  intro ls st h r hf
  simp only [ps_if] at hf
  split at hf
  · split at hf <;> rename_i hc1 <;> simp only [pm_next, Option.some.injEq] at hf <;> subst hf
    · exact ⟨_, rfl, po_J.rf, fun X p l e R s m args below meth c h0 Q hat hj hc hs k H locs la hL hR => lv_if_lt hat.1 hat.2.1 hd ht (fun _ => k H locs la hL hR) (fun z => absurd hc1 (by simp at z ⊢; exact z))⟩
    · exact ⟨_, rfl, po_J.rf, fun X p l e R s m args below meth c h0 Q hat hj hc hs k H locs la hL hR => lv_if_lt hat.1 hat.2.1 hd ht (fun z => absurd (by simp at z ⊢; exact z) hc1) (fun _ => k H locs la hL hR)⟩
  · cases hf
theorem po_if_ge {off : Int} {tgt : Nat} (hd : decode cc pc = .ok (.ifCond .ge off, 3)) (ht : (pc : Int) + off = (tgt : Int)) : po_N own cc nL ini pc (ps_if (fun x => decide (0 ≤ x)) tgt (pc + 3)) := by
  intro ls st h r hf
  simp only [ps_if] at hf
  split at hf
  · split at hf <;> rename_i hc1 <;> simp only [pm_next, Option.some.injEq] at hf <;> subst hf
    · exact ⟨_, rfl, po_J.rf, fun X p l e R s m args below meth c h0 Q hat hj hc hs k H locs la hL hR => lv_if_ge hat.1 hat.2.1 hd ht (fun _ => k H locs la hL hR) (fun z => absurd hc1 (by simp at z ⊢; exact z))⟩
    · exact ⟨_, rfl, po_J.rf, fun X p l e R s m args below meth c h0 Q hat hj hc hs k H locs la hL hR => lv_if_ge hat.1 hat.2.1 hd ht (fun z => absurd (by simp at z ⊢; exact z) hc1) (fun _ => k H locs la hL hR)⟩
  · cases hf
theorem po_if_gt {off : Int} {tgt : Nat} (hd : decode cc pc = .ok (.ifCond .gt off, 3)) (ht : (pc : Int) + off = (tgt : Int)) : po_N own cc nL ini pc (ps_if (fun x => decide (0 < x)) tgt (pc + 3)) := by
  intro ls st h r hf
  simp only [ps_if] at hf
  split at hf
  · split at hf <;> rename_i hc1 <;> simp only [pm_next, Option.some.injEq] at hf <;> subst hf
    · exact ⟨_, rfl, po_J.rf, fun X p l e R s m args below meth c h0 Q hat hj hc hs k H locs la hL hR => lv_if_gt hat.1 hat.2.1 hd ht (fun _ => k H locs la hL hR) (fun z => absurd hc1 (by simp at z ⊢; exact z))⟩
    · exact ⟨_, rfl, po_J.rf, fun X p l e R s m args below meth c h0 Q hat hj hc hs k H locs la hL hR => lv_if_gt hat.1 hat.2.1 hd ht (fun z => absurd (by simp at z ⊢; exact z) hc1) (fun _ => k H locs la hL hR)⟩
  · cases hf
theorem po_if_le {off : Int} {tgt : Nat} (hd : decode cc pc = .ok (.ifCond .le off, 3)) (ht : (pc : Int) + off = (tgt : Int)) : po_N own cc nL ini pc (ps_if (fun x => decide (x ≤ 0)) tgt (pc + 3)) := by
  intro ls st h r hf
  simp only [ps_if] at hf
  split at hf
  · split at hf <;> rename_i hc1 <;> simp only [pm_next, Option.some.injEq] at hf <;> subst hf
    · exact ⟨_, rfl, po_J.rf, fun X p l e R s m args below meth c h0 Q hat hj hc hs k H locs la hL hR => lv_if_le hat.1 hat.2.1 hd ht (fun _ => k H locs la hL hR) (fun z => absurd hc1 (by simp at z ⊢; exact z))⟩
    · exact ⟨_, rfl, po_J.rf, fun X p l e R s m args below meth c h0 Q hat hj hc hs k H locs la hL hR => lv_if_le hat.1 hat.2.1 hd ht (fun z => absurd (by simp at z ⊢; exact z) hc1) (fun _ => k H locs la hL hR)⟩
  · cases hf
theorem po_icmp_eq {off : Int} {tgt : Nat} (hd : decode cc pc = .ok (.if_icmp .eq off, 3)) (ht : (pc : Int) + off = (tgt : Int)) : po_N own cc nL ini pc (ps_icmp (fun x y => x == y) tgt (pc + 3)) := by
  intro ls st h r hf
  simp only [ps_icmp] at hf
  split at hf
  · split at hf <;> rename_i hc1 <;> simp only [pm_next, Option.some.injEq] at hf <;> subst hf
    · exact ⟨_, rfl, po_J.rf, fun X p l e R s m args below meth c h0 Q hat hj hc hs k H locs la hL hR => lv_icmp_eq hat.1 hat.2.1 hd ht (fun _ => k H locs la hL hR) (fun z => absurd hc1 (by simp at z ⊢; exact z))⟩
    · exact ⟨_, rfl, po_J.rf, fun X p l e R s m args below meth c h0 Q hat hj hc hs k H locs la hL hR => lv_icmp_eq hat.1 hat.2.1 hd ht (fun z => absurd (by simp at z ⊢; exact z) hc1) (fun _ => k H locs la hL hR)⟩
  · cases hf
theorem po_icmp_ne {off : Int} {tgt : Nat} (hd : decode cc pc = .ok (.if_icmp .ne off, 3)) (ht : (pc : Int) + off = (tgt : Int)) : po_N own cc nL ini pc (ps_icmp (fun x y => x != y) tgt (pc + 3)) := by
  intro ls st h r hf
  simp only [ps_icmp] at hf
  split at hf
  · split at hf <;> rename_i hc1 <;> simp only [pm_next, Option.some.injEq] at hf <;> subst hf
    · exact ⟨_, rfl, po_J.rf, fun X p l e R s m args below meth c h0 Q hat hj hc hs k H locs la hL hR => lv_icmp_ne hat.1 hat.2.1 hd ht (fun _ => k H locs la hL hR) (fun z => absurd hc1 (by simp at z ⊢; exact z))⟩
    · exact ⟨_, rfl, po_J.rf, fun X p l e R s m args below meth c h0 Q hat hj hc hs k H locs la hL hR => lv_icmp_ne hat.1 hat.2.1 hd ht (fun z => absurd (by simp at z ⊢; exact z) hc1) (fun _ => k H locs la hL hR)⟩
  · cases hf
theorem po_icmp_lt {off : Int} {tgt : Nat} (hd : decode cc pc = .ok (.if_icmp .lt off, 3)) (ht : (pc : Int) + off = (tgt : Int)) : po_N own cc nL ini pc (ps_icmp (fun x y => decide (x < y)) tgt (pc + 3)) := by
  intro ls st h r hf
  simp only [ps_icmp] at hf
  split at hf
  · split at hf <;> rename_i hc1 <;> simp only [pm_next, Option.some.injEq] at hf <;> subst hf
    · exact ⟨_, rfl, po_J.rf, fun X p l e R s m args below meth c h0 Q hat hj hc hs k H locs la hL hR => lv_icmp_lt hat.1 hat.2.1 hd ht (fun _ => k H locs la hL hR) (fun z => absurd hc1 (by simp at z ⊢; exact z))⟩
    · exact ⟨_, rfl, po_J.rf, fun X p l e R s m args below meth c h0 Q hat hj hc hs k H locs la hL hR => lv_icmp_lt hat.1 hat.2.1 hd ht (fun z => absurd (by simp at z ⊢; exact z) hc1) (fun _ => k H locs la hL hR)⟩
  · cases hf
theorem po_icmp_ge {off : Int} {tgt : Nat} (hd : decode cc pc = .ok (.if_icmp .ge off, 3)) (ht : (pc : Int) + off = (tgt : Int)) : po_N own cc nL ini pc (ps_icmp (fun x y => decide (y ≤ x)) tgt (pc + 3)) := by
  intro ls st h r hf
  simp only [ps_icmp] at hf
  split at hf
  · split at hf <;> rename_i hc1 <;> simp only [pm_next, Option.some.injEq] at hf <;> subst hf
    · exact ⟨_, rfl, po_J.rf, fun X p l e R s m args below meth c h0 Q hat hj hc hs k H locs la hL hR => lv_icmp_ge hat.1 hat.2.1 hd ht (fun _ => k H locs la hL hR) (fun z => absurd hc1 (by simp at z ⊢; exact z))⟩
    · exact ⟨_, rfl, po_J.rf, fun X p l e R s m args below meth c h0 Q hat hj hc hs k H locs la hL hR => lv_icmp_ge hat.1 hat.2.1 hd ht (fun z => absurd (by simp at z ⊢; exact z) hc1) (fun _ => k H locs la hL hR)⟩
  · cases hf
theorem po_icmp_gt {off : Int} {tgt : Nat} (hd : decode cc pc = .ok (.if_icmp .gt off, 3)) (ht : (pc : Int) + off = (tgt : Int)) : po_N own cc nL ini pc (ps_icmp (fun x y => decide (y < x)) tgt (pc + 3)) := by
  intro ls st h r hf
  simp only [ps_icmp] at hf
  split at hf
  · split at hf <;> rename_i hc1 <;> simp only [pm_next, Option.some.injEq] at hf <;> subst hf
    · exact ⟨_, rfl, po_J.rf, fun X p l e R s m args below meth c h0 Q hat hj hc hs k H locs la hL hR => lv_icmp_gt hat.1 hat.2.1 hd ht (fun _ => k H locs la hL hR) (fun z => absurd hc1 (by simp at z ⊢; exact z))⟩
    · exact ⟨_, rfl, po_J.rf, fun X p l e R s m args below meth c h0 Q hat hj hc hs k H locs la hL hR => lv_icmp_gt hat.1 hat.2.1 hd ht (fun z => absurd (by simp at z ⊢; exact z) hc1) (fun _ => k H locs la hL hR)⟩
  · cases hf
theorem po_icmp_le {off : Int} {tgt : Nat} (hd : decode cc pc = .ok (.if_icmp .le off, 3)) (ht : (pc : Int) + off = (tgt : Int)) : po_N own cc nL ini pc (ps_icmp (fun x y => decide (x ≤ y)) tgt (pc + 3)) := by
  intro ls st h r hf
  simp only [ps_icmp] at hf
  split at hf
  · split at hf <;> rename_i hc1 <;> simp only [pm_next, Option.some.injEq] at hf <;> subst hf
    · exact ⟨_, rfl, po_J.rf, fun X p l e R s m args below meth c h0 Q hat hj hc hs k H locs la hL hR => lv_icmp_le hat.1 hat.2.1 hd ht (fun _ => k H locs la hL hR) (fun z => absurd hc1 (by simp at z ⊢; exact z))⟩
    · exact ⟨_, rfl, po_J.rf, fun X p l e R s m args below meth c h0 Q hat hj hc hs k H locs la hL hR => lv_icmp_le hat.1 hat.2.1 hd ht (fun z => absurd (by simp at z ⊢; exact z) hc1) (fun _ => k H locs la hL hR)⟩
  · cases hf
end PO
