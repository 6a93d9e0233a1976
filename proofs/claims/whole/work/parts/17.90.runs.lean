/-! A RUN OF THE PURE MACHINE IS THE MACHINE'S -/
def po_ini (D : po_M) : Bool := decide (D.1.name = "<init>")
/-- the locals with which a method begins -/
theorem po_args (as : List Value) (h : as.all ps_okA = true) : (lg_sl as).length = as.length ∧ ∀ (i k : Nat) (v : Value), as[k]? = some v → (i + k, v) ∈ lv_args i as := by
  induction as with
  | nil => exact ⟨rfl, fun i k v hv => by simp at hv⟩
  | cons a t ih =>
    simp only [List.all_cons, Bool.and_eq_true] at h
    obtain ⟨g1, g2⟩ := ih h.2
    have ha : ¬ a.category = 2 := by
      have := h.1
      intro z
      cases a <;> first | (cases this; done) | (exact absurd z (by show ¬ (1 : Nat) = 2; decide))
    refine ⟨?_, fun i k v hv => ?_⟩
    · show ((if a.category = 2 then [Slot.val a, .second] else [.val a]) ++ lg_sl t).length = _
      rw [if_neg ha, List.length_append, g1]
      simp [Nat.add_comm]
    · unfold lv_args
      rw [if_neg ha]
      cases k with
      | zero =>
        have : a = v := by simpa using hv
        subst this
        exact List.mem_cons_self
      | succ k =>
        have hv' : t[k]? = some v := by simpa using hv
        have := g2 (i + 1) k v hv'
        rw [show i + 1 + k = i + (k + 1) by omega] at this
        exact List.mem_cons_of_mem _ this
theorem po_entry (as : List Value) (h : as.all ps_okA = true) {n : Nat} (hn : as.length ≤ n) (m : MethodId) : ∃ la : Array Slot, entryFrame m as.toArray n = F0 m 0 la [] ∧ po_L la n (ps_fill n as) := by
  obtain ⟨g1, g2⟩ := po_args as h
  have hl := lv_entry as (n := n) (by rw [g1]; exact hn)
  refine ⟨_, lg_entry_eq m as n, ?_, ?_, hl.1, hl.2.1, ?_⟩
  · unfold ps_fill
    rw [List.length_append, List.length_replicate]
    omega
  · intro v hv
    unfold ps_fill at hv
    rcases List.mem_append.mp hv with q | q
    · have := List.all_eq_true.mp h v q
      cases v <;> first | (cases this; done) | rfl
    · rw [(List.mem_replicate.mp q).2]
      rfl
  · intro q hq
    obtain ⟨k, v⟩ := q
    have hk := po_as_of hq
    unfold ps_fill at hk
    by_cases hkl : k < as.length
    · rw [List.getElem?_append_left hkl] at hk
      have := g2 0 k v hk
      rw [Nat.zero_add] at this
      exact hl.2.2 _ this
    · rw [List.getElem?_append_right (by omega), List.getElem?_replicate] at hk
      split at hk
      · cases hk
        obtain ⟨j, hj, e⟩ := List.mem_filterMap.mp hq
        cases hz : (ps_fill n as)[j]? with
        | none => rw [hz] at e; cases e
        | some z =>
          rw [hz] at e
          cases z <;> simp at e
      · cases hk
/-- vx_ofW, vx_ofWH of the pasted rows, for a member that the machine has no entry for (of_bodySF) -/
theorem po_ofW {l : Launch} {y : MethodName} {ws ws' : List Cond} {rm : Room} {Pc : Array Value → State → Prop} {Qc : Array Value → State → Outcome → State → Prop} {XC : String → State → State → Prop} {mc ms : Nat} {free : Addr → Prop} {cc : ByteArray} {maxL : Nat} {ret : Option FieldType}
    (hy : plainFor y = true) (hw : ws = Cond.code y cc maxL ret :: ws')
    (body : ∀ p e s m args below meth c s₁, BodyLoose p l y (headSpec ws rm) cc maxL ret e s m args below meth c s₁ → c.maxLocals = maxL → (∀ x ∈ c.exceptionTable.toList, False) → Pc args s →
      W p l e (headSpec ws rm).room s m args below meth c s.heap [] 0 0 (vx_MQ below Qc XC args s mc ms free) (entryFrame m args maxL)) : vx_Met l y ws rm Pc Qc XC mc ms free := by
  refine MetFree.of_bodySF (code := cc) (maxLocals := maxL) (ret := ret) hy ?_ ?_
  · intro args s m h hn
    obtain ⟨meth, c, h1, h2, h3, h4, h5, h6, -, -⟩ := Cond.code_spec hn (atoms_spec (ws := ws) h _ (by rw [hw]; exact List.mem_cons_self))
    exact ⟨meth, c, h1, h2, h3, h4, h5, h6⟩
  · intro p e s m args below meth c s₁ B hml hP _
    have hh0 : s₁.heap = s.heap := by rw [B.state]; rfl
    have ht : ∀ x ∈ c.exceptionTable.toList, False := by
      obtain ⟨meth9, c9, h1, h2, -, -, -, -, h7, -⟩ := Cond.code_spec B.named (atoms_spec (ws := ws) B.pre _ (by rw [hw]; exact List.mem_cons_self))
      cases Option.some.inj (h1.symm.trans B.method)
      cases Option.some.inj (h2.symm.trans (Stand.of_body B).code)
      intro x hx
      rw [Array.isEmpty_iff.mp h7] at hx
      cases hx
    obtain ⟨t, a1, o, b1, b2, b3⟩ := body p e s m args below meth c s₁ B hml ht hP s₁ hh0 (Stand.of_body B)
    exact ⟨t, o, a1, b1, b2, b3⟩
theorem po_ofWH {l : Launch} {y : MethodName} {ws ws' : List Cond} {rm : Room} {Pc : Array Value → State → Prop} {Qc : Array Value → State → Outcome → State → Prop} {XC : String → State → State → Prop} {mc ms : Nat} {free : Addr → Prop} {cc : ByteArray} {maxL : Nat} {ret : Option FieldType} {hh : List (Nat × Nat × Nat × Nat)}
    (hy : plainFor y = true) (hw : ws = Cond.codeWith y cc maxL ret hh :: ws')
    (body : ∀ p e s m args below meth c s₁, BodyLoose p l y (headSpec ws rm) cc maxL ret e s m args below meth c s₁ → c.maxLocals = maxL → Pc args s →
      W p l e (headSpec ws rm).room s m args below meth c s.heap [] 0 0 (vx_MQ below Qc XC args s mc ms free) (entryFrame m args maxL)) : vx_Met l y ws rm Pc Qc XC mc ms free := by
  refine MetFree.of_bodySF (code := cc) (maxLocals := maxL) (ret := ret) hy ?_ ?_
  · intro args s m h hn
    obtain ⟨m9, meth, c, hn9, h1, h2, h3, h4, -, h5, h6, -⟩ := Cond.codeWith_spec (atoms_spec (ws := ws) h _ (by rw [hw]; exact List.mem_cons_self))
    cases hn.symm.trans hn9
    exact ⟨meth, c, h1, h2, h3, h4, h5, h6⟩
  · intro p e s m args below meth c s₁ B hml hP _
    have hh0 : s₁.heap = s.heap := by rw [B.state]; rfl
    obtain ⟨t, a1, o, b1, b2, b3⟩ := body p e s m args below meth c s₁ B hml hP s₁ hh0 (Stand.of_body B)
    exact ⟨t, o, a1, b1, b2, b3⟩
/-- a method's contract out of its body's run -/
theorem po_met {X : po_X} {l : Launch} {d : Nat} {D : po_M} {as : List Value} {h h' : pm_H} {o : pm_O} (hl : l.stackTraces = false) (hn : plainFor D.1 = true) (has : as.all ps_okA = true) (hal : as.length ≤ D.2.2.1)
    (body : ∀ (p : Program) (e : Env) (R : Room) (s : State) (m : MethodId) (args : Array Value) (below : List Frame) (meth : Method) (c : Code), po_At X p l R s m args meth c h D.1.cls D.2.1 D.2.2.1 (po_ini D) → meth.sig.returnType = D.2.2.2.1 → c.exceptionTable.toList = tableOf D.2.2.2.2 →
      pm_cells h' - pm_cells h ≤ R.cells → pm_slots h' - pm_slots h ≤ R.slots → d + 6 ≤ R.frames → 100 * d + 200 ≤ R.locals →
      po_Sim X p l e R s m args below meth c h D.2.2.1 (vx_MQ below (po_Qc X o h') (po_XC X o h') args s (pm_cells h' - pm_cells h) (pm_slots h' - pm_slots h) (po_A X)) 0 (ps_fill D.2.2.1 as) [] h) : po_Con l X d D as h o h' := by
  unfold po_Con
  have key : ∀ (cw : Cond) (p : Program) (e : Env) (s : State) (m : MethodId) (args : Array Value) (below : List Frame) (meth : Method) (c : Code) (s₁ : State), po_w D = cw :: po_ws → BodyLoose p l D.1 (headSpec (po_w D) (po_rm d (pm_cells h' - pm_cells h) (pm_slots h' - pm_slots h))) D.2.1 D.2.2.1 D.2.2.2.1 e s m args below meth c s₁ → c.maxLocals = D.2.2.1 → c.exceptionTable.toList = tableOf D.2.2.2.2 → po_Pc X as h args s →
      W p l e (headSpec (po_w D) (po_rm d (pm_cells h' - pm_cells h) (pm_slots h' - pm_slots h))).room s m args below meth c s.heap [] 0 0 (vx_MQ below (po_Qc X o h') (po_XC X o h') args s (pm_cells h' - pm_cells h) (pm_slots h' - pm_slots h) (po_A X)) (entryFrame m args D.2.2.1) := by
    intro cw p e s m args below meth c s₁ hcw B hml ht hv
    obtain ⟨rfl, hR, hz, hC⟩ := hv
    obtain ⟨la, he, hL⟩ := po_entry as has hal m
    rw [he]
    have hts0 := atoms_spec (ws := po_w D) B.pre
    have hb := body p e (po_rm d (pm_cells h' - pm_cells h) (pm_slots h' - pm_slots h)) s m as.toArray below meth c ⟨B.exec, B.bytes, hml, findClass_of_methodNamed B.named, fun w hw => hts0 w (by rw [hcw]; exact List.mem_cons_of_mem _ hw), B.notSynchronized, hC, ?_, hz, hR.2.1, hl, Nat.le_add_left _ _, Nat.le_add_left _ _, fun hi => ?_⟩ B.returns ht (Nat.le_refl _) (Nat.le_refl _) (Nat.le_refl _) (Nat.le_refl _) s.heap [] la hL hR
    · rw [Nat.sub_self, Nat.sub_self] at hb
      exact hb
    · obtain ⟨-, -, -, ws, -, -, hS, -⟩ := hR
      exact hS
    · rw [(name_of_methodNamed B.named B.method).1]
      exact of_decide_eq_true hi
  by_cases ht : D.2.2.2.2 = []
  · have hw : po_w D = Cond.code D.1 D.2.1 D.2.2.1 D.2.2.2.1 :: po_ws := by unfold po_w; rw [if_pos ht]
    refine po_ofW (cc := D.2.1) (maxL := D.2.2.1) (ret := D.2.2.2.1) hn hw ?_
    intro p e s m args below meth c s₁ B hml hx hv
    refine key _ p e s m args below meth c s₁ hw B hml ?_ hv
    rw [ht]
    have : c.exceptionTable.toList = [] := List.eq_nil_iff_forall_not_mem.mpr fun x hm => hx x hm
    rw [this]
    rfl
  · have hw : po_w D = Cond.codeWith D.1 D.2.1 D.2.2.1 D.2.2.2.1 D.2.2.2.2 :: po_ws := by unfold po_w; rw [if_neg ht]
    refine po_ofWH (cc := D.2.1) (maxL := D.2.2.1) (ret := D.2.2.2.1) (hh := D.2.2.2.2) hn hw ?_
    intro p e s m args below meth c s₁ B hml hv
    exact key _ p e s m args below meth c s₁ hw B hml (vx_table (x := D.1) (y := D.1) B (atoms_spec (ws := po_w D) B.pre _ (by rw [hw]; exact List.mem_cons_self))) hv
theorem po_Rep.relocs {X : po_X} {h h1 : pm_H} {H H1 : Heap} {locs L l1 : List Loc} (hR1 : po_Rep X h1 H1 l1) (hR : po_Rep X h H locs) (hL : ∀ q ∈ L, po_A X q.base) : po_Rep X h1 H1 (locs ++ L) := by
  obtain ⟨r1, r2, r3, ws, hP, hD, hS, hI⟩ := hR1
  exact ⟨r1, r2, r3, ws, hP, hD, ⟨hS.1, hS.2.1, fun q hq => (List.mem_append.mp hq).elim (hR.any q) (hL q)⟩, hI⟩
/-- the soundness of the steps of all methods -/
def po_Ins (md : Nat → po_M) (ins : Nat → Nat → Option pm_S) : Prop := ∀ (mi pc : Nat) (f : pm_S), ins mi pc = some f →
  po_N (md mi).1.cls (md mi).2.1 (md mi).2.2.1 (po_ini (md mi)) pc f ∨ po_C md (md mi).1.cls (md mi).2.1 (md mi).2.2.1 (po_ini (md mi)) (md mi).2.2.2.2 pc f ∨
  (po_E (md mi).1.cls (md mi).2.1 (md mi).2.2.1 (po_ini (md mi)) (md mi).2.2.2.1 pc f ∧ ((md mi).2.2.2.2 = [] ∨ ∀ ls st h q, f ls st h = some (.inr (.inr q)) → ∃ v, q.1 = .inl v))
set_option maxHeartbeats 4000000 in
theorem po_run {md : Nat → po_M} {ins : Nat → Nat → Option pm_S} (hI : po_Ins md ins) (hP : ∀ mi, plainFor (md mi).1 = true) (hB : ∀ mi, ins mi 9999 = none) {l : Launch} (hl : l.stackTraces = false) :
    ∀ (n d mi pc : Nat) (ls st : List Value) (h : pm_H) (o : pm_O) (h' : pm_H), pm_go ins n d mi pc ls st h = some (o, h') → po_J h h' ∧
      ∀ (X : po_X) (p : Program) (e : Env) (R : Room) (s : State) (m : MethodId) (args : Array Value) (below : List Frame) (meth : Method) (c : Code) (h0 : pm_H),
        po_At X p l R s m args meth c h0 (md mi).1.cls (md mi).2.1 (md mi).2.2.1 (po_ini (md mi)) → meth.sig.returnType = (md mi).2.2.2.1 → c.exceptionTable.toList = tableOf (md mi).2.2.2.2 → po_J h0 h →
        pm_cells h' - pm_cells h0 ≤ R.cells → pm_slots h' - pm_slots h0 ≤ R.slots → d + 6 ≤ R.frames → 100 * d + 200 ≤ R.locals →
        po_Sim X p l e R s m args below meth c h0 (md mi).2.2.1 (vx_MQ below (po_Qc X o h') (po_XC X o h') args s (pm_cells h' - pm_cells h0) (pm_slots h' - pm_slots h0) (po_A X)) pc ls st h := by
  intro n
  induction n with
  | zero => intro d mi pc ls st h o h' hg; cases hg
  | succ n ih =>
    intro d mi pc ls st h o h' hg
    unfold pm_go at hg
    split at hg
    · cases hg
    · rename_i f hf
      have hIf := hI mi pc f hf
      split at hg
      · cases hg
      · -- goes on
        rename_i g hfs
        obtain ⟨J2, hsim⟩ := ih _ _ _ _ _ _ _ _ hg
        rcases hIf with hN | hC | ⟨hE, -⟩
        · obtain ⟨g', e1, J, hW⟩ := hN ls st h _ hfs
          cases e1
          refine ⟨J.tr J2, fun X p e R s m args below meth c h0 hat hret ht hj hc hs hf6 hlo => ?_⟩
          exact hW X p l e R s m args below meth c h0 _ hat hj (Nat.le_trans (Nat.sub_le_sub_right J2.1 _) hc) (Nat.le_trans (Nat.sub_le_sub_right J2.2.1 _) hs)
            (hsim X p e R s m args below meth c h0 hat hret ht (hj.tr J) hc hs hf6 hlo)
        · obtain ⟨tm, as, rest, hd, e1, -⟩ := hC ls st h _ hfs
          cases e1
        · obtain ⟨q, e1, -⟩ := hE ls st h _ hfs
          cases e1
      · -- an end
        rename_i r hfs
        cases hg
        rcases hIf with hN | hC | ⟨hE, hEt⟩
        · obtain ⟨g', e1, -⟩ := hN ls st h _ hfs
          cases e1
        · obtain ⟨tm, as, rest, hd, e1, -⟩ := hC ls st h _ hfs
          cases e1
        · obtain ⟨q, e1, J, hW⟩ := hE ls st h _ hfs
          cases e1
          refine ⟨J, fun X p e R s m args below meth c h0 hat hret ht hj hc hs hf6 hlo H locs la hL hR => ?_⟩
          refine hW X p l e R s m args below meth c h0 hat hret (fun ⟨E, hE9⟩ x hx => ?_) hj hc hs H locs la hL hR
          rcases hEt with q9 | q9
          · rw [ht, q9] at hx
            cases hx
          · obtain ⟨v, hv⟩ := q9 ls st h _ hfs
            rw [hv] at hE9
            cases hE9
      · -- a call
        rename_i k hfs
        rcases hIf with hN | hC | ⟨hE, -⟩
        · obtain ⟨g', e1, -⟩ := hN ls st h _ hfs
          cases e1
        · obtain ⟨tm, as, rest, hd, e1, hal, hao, hHd, hrun⟩ := hC ls st h _ hfs
          cases e1
          cases d with
          | zero => cases hg
          | succ d' =>
            dsimp only at hg
            split at hg
            · cases hg
            · -- it returns
              rename_i v h1 hcal
              obtain ⟨Jc, hsimc⟩ := ih _ _ _ _ _ _ _ _ hcal
              obtain ⟨J2, hsim⟩ := ih _ _ _ _ _ _ _ _ hg
              refine ⟨Jc.tr J2, fun X p e R s m args below meth c h0 hat hret ht hj hc hs hf6 hlo H locs la hL hR => ?_⟩
              have hCon : po_Con l X d' (md tm) as h (.inl v) h1 := po_met hl (hP tm) hao hal fun p e R s m args below meth c hat hret ht hc hs hf6 hlo => hsimc X p e R s m args below meth c h hat hret ht po_J.rf hc hs hf6 hlo
              refine po_end hat hj hR fun hz => ?_
              have hr := hrun X p l e R s m args below meth c h0 d' (.inl v) h1 hat hj Jc (Nat.le_trans (Nat.sub_le_sub_right J2.1 _) hc) (Nat.le_trans (Nat.sub_le_sub_right J2.2.1 _) hs) (by omega) (by omega) hCon H locs la hL hR hz
              intro T hT Y
              rcases hr T hT Y with ⟨v', st₀, t, T', L, h0e, X', hL', e1, e2, ⟨v2, ho, hoc, locs', hR', hz'⟩, stp⟩ | ⟨q, st₀, t, T', L, E, ce, h0e, X', hL', e1, e2, ⟨ho, -⟩, -⟩
              · cases ho
                cases hoc
                obtain ⟨j1, j2, j3⟩ := hj
                obtain ⟨i1, i2, i3⟩ := Jc
                have q1 : pm_cells h - pm_cells h0 + (pm_cells h1 - pm_cells h) = pm_cells h1 - pm_cells h0 := by omega
                have q2 : pm_slots h - pm_slots h0 + (pm_slots h1 - pm_slots h) = pm_slots h1 - pm_slots h0 := by omega
                rw [q1, q2] at X'
                rw [← e1] at hR'
                obtain ⟨t2, a1, b1⟩ := hsim X p e R s m args below meth c h0 hat hret ht ⟨by omega, by omega, by omega⟩ hc hs hf6 hlo T'.heap (locs ++ L) la hL (hR'.relocs hR hL') T' rfl X'
                exact ⟨t2, stp t2 a1, b1⟩
              · cases ho
            · -- it throws
              rename_i E h1 hcal
              obtain ⟨Jc, hsimc⟩ := ih _ _ _ _ _ _ _ _ hcal
              obtain ⟨hH0, hH1⟩ := hHd E
              split at hg
              · rename_i hdE
                cases hg
                refine ⟨Jc, fun X p e R s m args below meth c h0 hat hret ht hj hc hs hf6 hlo H locs la hL hR => ?_⟩
                have hCon : po_Con l X d' (md tm) as h (.inr E) h' := po_met hl (hP tm) hao hal fun p e R s m args below meth c hat hret ht hc hs hf6 hlo => hsimc X p e R s m args below meth c h hat hret ht po_J.rf hc hs hf6 hlo
                refine po_end hat hj hR fun hz => ?_
                have hr := hrun X p l e R s m args below meth c h0 d' (.inr E) h' hat hj Jc hc hs (by omega) (by omega) hCon H locs la hL hR hz
                intro T hT Y
                rcases hr T hT Y with ⟨v', st₀, t, T', L, h0e, X', hL', e1, e2, ⟨v2, ho, -⟩, stp⟩ | ⟨q, st₀, t, T', L, E', ce, h0e, X', hL', e1, e2, ⟨ho, locs', hR', hz'⟩, hce, hcv, hcl, stp⟩
                · cases ho
                · cases ho
                  obtain ⟨j1, j2, j3⟩ := hj
                  obtain ⟨i1, i2, i3⟩ := Jc
                  have q1 : pm_cells h - pm_cells h0 + (pm_cells h' - pm_cells h) = pm_cells h' - pm_cells h0 := by omega
                  have q2 : pm_slots h - pm_slots h0 + (pm_slots h' - pm_slots h) = pm_slots h' - pm_slots h0 := by omega
                  rw [q1, q2] at X'
                  rw [← e1] at hR' hce hz'
                  have hR2 := hR'.relocs hR hL'
                  have htb : c.exceptionTable.toList = [] := by rw [ht, hH0 hdE]; rfl
                  obtain ⟨t2, a1, b1⟩ := vx_out (Qc := po_Qc X (.inr E) h') (XC := po_XC X (.inr E) h') (free := po_A X) (ls := la) (rest := rest) (pc := pc) (fun x hx => by rw [htb] at hx; cases hx) hat.2.2.2.2.2.1 hce hcv hcl (fun t9 ht9 _ => ⟨rfl, locs ++ L, by rw [ht9]; exact hR2, by rw [ht9]; exact hz'⟩) hR2.any (Nat.le_refl _) (Nat.le_refl _) T' rfl X'
                  exact ⟨t2, stp.trans a1, b1⟩
              · rename_i q0 hdE
                obtain ⟨J2, hsim⟩ := ih _ _ _ _ _ _ _ _ hg
                refine ⟨Jc.tr J2, fun X p e R s m args below meth c h0 hat hret ht hj hc hs hf6 hlo H locs la hL hR => ?_⟩
                have hCon : po_Con l X d' (md tm) as h (.inr E) h1 := po_met hl (hP tm) hao hal fun p e R s m args below meth c hat hret ht hc hs hf6 hlo => hsimc X p e R s m args below meth c h hat hret ht po_J.rf hc hs hf6 hlo
                refine po_end hat hj hR fun hz => ?_
                have hr := hrun X p l e R s m args below meth c h0 d' (.inr E) h1 hat hj Jc (Nat.le_trans (Nat.sub_le_sub_right J2.1 _) hc) (Nat.le_trans (Nat.sub_le_sub_right J2.2.1 _) hs) (by omega) (by omega) hCon H locs la hL hR hz
                intro T hT Y
                rcases hr T hT Y with ⟨v', st₀, t, T', L, h0e, X', hL', e1, e2, ⟨v2, ho, -⟩, stp⟩ | ⟨q, st₀, t, T', L, E', ce, h0e, X', hL', e1, e2, ⟨ho, locs', hR', hz'⟩, hce, hcv, hcl, stp⟩
                · cases ho
                · cases ho
                  obtain ⟨j1, j2, j3⟩ := hj
                  obtain ⟨i1, i2, i3⟩ := Jc
                  have q1 : pm_cells h - pm_cells h0 + (pm_cells h1 - pm_cells h) = pm_cells h1 - pm_cells h0 := by omega
                  have q2 : pm_slots h - pm_slots h0 + (pm_slots h1 - pm_slots h) = pm_slots h1 - pm_slots h0 := by omega
                  rw [q1, q2] at X'
                  rw [← e1] at hR' hce
                  have hR2 := hR'.relocs hR hL'
                  rcases hH1 q0 hdE with h9 | h9
                  · exfalso
                    rw [h9] at hg
                    cases n with
                    | zero => cases hg
                    | succ n => unfold pm_go at hg; rw [hB] at hg; cases hg
                  · obtain ⟨t2, a1, b1⟩ := h9 X p l e R s m args below meth c h0 h1 _ hat ht (hsim X p e R s m args below meth c h0 hat hret ht ⟨by omega, by omega, by omega⟩ hc hs hf6 hlo) T'.heap (locs ++ L) la rest ce q hL hR2 hce hcv hcl T' rfl X'
                    exact ⟨t2, stp.trans a1, b1⟩
        · obtain ⟨q, e1, -⟩ := hE ls st h _ hfs
          cases e1
