/-! CALLS -/
abbrev po_M : Type := MethodName × ByteArray × Nat × Option FieldType × List (Nat × Nat × Nat × Nat)
/-- the words that a method is told: its own code first -/
def po_w (d : po_M) : List Cond := (if d.2.2.2.2 = [] then Cond.code d.1 d.2.1 d.2.2.1 d.2.2.2.1 else Cond.codeWith d.1 d.2.1 d.2.2.1 d.2.2.2.1 d.2.2.2.2) :: po_ws
theorem po_gw : GoodIn po_ws po_ws := fun w hw => ⟨hw, good_of_word (List.mem_filter.mp hw).2⟩
theorem po_gc {w : Cond} (h : w ∈ po_ws) : GoodIn po_ws (w :: po_ws) := fun v hv => (List.mem_cons.mp hv).elim (fun e => by rw [e]; exact po_gw w h) (po_gw v)
/-- what a method's caller hands over -/
def po_Pc (X : po_X) (as : List Value) (h : pm_H) : Array Value → State → Prop := va_Pc as (fun U => po_Rep X h U.heap [] ∧ (pm_gap h = 0 → U.heap.size = pm_size h) ∧ po_Ctx X U)
theorem po_Pc.blind {X : po_X} {as : List Value} {h : pm_H} : FrameBlind (po_Pc X as h) := fun a U g mk q => by
  obtain ⟨q0, q1, q2, q3⟩ := q
  exact ⟨q0, q1, q2, po_Ctx.same (u := U) (U := U.calling g mk a) rfl q3⟩
/-- what a method leaves behind -/
def po_Po (X : po_X) (h : pm_H) (t : State) : Prop := ∃ locs, po_Rep X h t.heap locs ∧ (pm_gap h = 0 → t.heap.size = pm_size h)
def po_Qc (X : po_X) (o : pm_O) (h : pm_H) : Array Value → State → Outcome → State → Prop := fun _ _ oc t => ∃ v, o = .inl v ∧ oc = .returned v ∧ po_Po X h t
def po_XC (X : po_X) (o : pm_O) (h : pm_H) : String → State → State → Prop := fun E _ t => o = .inr E ∧ po_Po X h t
def po_rm (d mc ms : Nat) : Room := { frames := d + 6, cells := mc, slots := ms, locals := 100 * d + 200 }
/-- a method at a run of the pure machine: from h with the arguments as it comes to the outcome o and h' -/
def po_Con (l : Launch) (X : po_X) (d : Nat) (D : po_M) (as : List Value) (h : pm_H) (o : pm_O) (h' : pm_H) : Prop :=
  vx_Met l D.1 (po_w D) (po_rm d (pm_cells h' - pm_cells h) (pm_slots h' - pm_slots h)) (po_Pc X as h) (po_Qc X o h') (po_XC X o h') (pm_cells h' - pm_cells h) (pm_slots h' - pm_slots h) (po_A X)
/-- where a class that is thrown there goes on: it leaves a method that has no table; by a table it is caught (9999: there is nothing) -/
def po_Hd (own : String) (cc : ByteArray) (nL : Nat) (ini : Bool) (tbl : List (Nat × Nat × Nat × Nat)) (pc : Nat) (ls : List Value) (hd : String → Option (Nat × List Value)) : Prop := ∀ E : String,
  (hd E = none → tbl = []) ∧ ∀ q : Nat × List Value, hd E = some q → q.1 = 9999 ∨
    ∀ (X : po_X) (p : Program) (l : Launch) (e : Env) (R : Room) (s : State) (m : MethodId) (args : Array Value) (below : List Frame) (meth : Method) (c : Code) (h0 h : pm_H) (Q : State → Prop),
      po_At X p l R s m args meth c h0 own cc nL ini → c.exceptionTable.toList = tableOf tbl → po_Sim X p l e R s m args below meth c h0 nL Q q.1 q.2 [] h →
      ∀ (H : Heap) (locs : List Loc) (la : Array Slot) (rest : List Value) (ce : Cell) (q9 : Addr), po_L la nL ls → po_Rep X h H locs → H[q9]? = some ce → ce.vm = .none → s.vm.findClass E = some ce.cls →
        vx_W p l e R s m args below meth c H locs (pm_cells h - pm_cells h0) (pm_slots h - pm_slots h0) Q (F0 m pc la rest) q9
theorem po_Hd0 {own : String} {cc : ByteArray} {nL : Nat} {ini : Bool} {pc : Nat} {ls : List Value} : po_Hd own cc nL ini [] pc ls pm_none := fun E => ⟨fun _ => rfl, fun q h => by cases h⟩
/-- a step that calls; md: the methods by their numbers -/
def po_C (md : Nat → po_M) (own : String) (cc : ByteArray) (nL : Nat) (ini : Bool) (tbl : List (Nat × Nat × Nat × Nat)) (pc : Nat) (f : pm_S) : Prop := ∀ (ls st : List Value) (h : pm_H) (r : pm_F ⊕ (pm_K ⊕ (pm_O × pm_H))), f ls st h = some r →
  ∃ (tm : Nat) (as rest : List Value) (hd : String → Option (Nat × List Value)), r = .inr (.inl (tm, ps_fill (md tm).2.2.1 as, (pc + 3, ls, rest), hd, h)) ∧ as.length ≤ (md tm).2.2.1 ∧ as.all ps_okA = true ∧ po_Hd own cc nL ini tbl pc ls hd ∧
  ∀ (X : po_X) (p : Program) (l : Launch) (e : Env) (R : Room) (s : State) (m : MethodId) (args : Array Value) (below : List Frame) (meth : Method) (c : Code) (h0 : pm_H) (d : Nat) (o : pm_O) (h' : pm_H),
    po_At X p l R s m args meth c h0 own cc nL ini → po_J h0 h → po_J h h' → pm_cells h' - pm_cells h0 ≤ R.cells → pm_slots h' - pm_slots h0 ≤ R.slots → d + 7 ≤ R.frames → 100 * d + 300 ≤ R.locals → po_Con l X d (md tm) as h o h' →
    ∀ (H : Heap) (locs : List Loc) (la : Array Slot), po_L la nL ls → po_Rep X h H locs → (pm_gap h = 0 → H.size = pm_size h) →
      vx_Run p l e R s m args below meth c H locs (pm_cells h - pm_cells h0) (pm_slots h - pm_slots h0) (pm_cells h' - pm_cells h) (pm_slots h' - pm_slots h) (F0 m pc la st) rest (po_Qc X o h' as.toArray) (po_XC X o h') (po_A X)
section PC
variable {own : String} {cc : ByteArray} {nL pc : Nat} {ini : Bool} {md : Nat → po_M} {tm : Nat} {tbl : List (Nat × Nat × Nat × Nat)}
theorem po_pre {X : po_X} {s : State} {h : pm_H} {H : Heap} {locs : List Loc} {as : List Value} (hC : po_Ctx X s) (hR : po_Rep X h H locs) (hz : pm_gap h = 0 → H.size = pm_size h) : ∀ U : State, U.heap = H → s.WarmedH U.vm → po_Pc X as h as.toArray U := by
  intro U hU hW
  obtain ⟨h1, h2, h3, ws, hP, hD, hS, hI⟩ := hR
  exact ⟨rfl, ⟨h1, h2, h3, ws, by rw [hU]; exact hP, hD, by rw [hU]; exact ⟨hS.1, hS.2.1, fun _ z => by cases z⟩, hI⟩, by rw [hU]; exact hz, hC.warm hW⟩
theorem po_callV {ci k index N : Nat} {C : String} {T : u_T} {ty : Nat → FieldType} {hd : List Value → String → Option (Nat × List Value)} (hdc : decode cc pc = .ok (.invokevirtual index, 3)) (hcl : po_cl ci C T N ty)
    (hy : (md tm).1.cls = C) (hnt : (md tm).2.2.2.2 = []) (h1 : Cond.methodLink own index (md tm).1 ∈ po_ws) (h2 : Cond.instanceMethod (md tm).1 ∈ po_ws) (h3 : Cond.selects C (md tm).1 (md tm).1 ∈ po_ws) (h4 : Cond.initialized C ∈ po_ws) (h5 : Cond.code (md tm).1 (md tm).2.1 (md tm).2.2.1 (md tm).2.2.2.1 ∈ po_ws)
    (hmh : (md tm).1.cls ≠ "java/lang/invoke/MethodHandle" ∧ (md tm).1.cls ≠ "java/lang/invoke/VarHandle") (hk : (parseMethodDescriptor (md tm).1.desc).map (fun d => d.parameters.length) = some k) (hm : k + 1 ≤ (md tm).2.2.1) (hm2 : (md tm).2.2.1 ≤ 80) (hH : ∀ ls, po_Hd own cc nL ini tbl pc ls (hd ls)) :
    po_C md own cc nL ini tbl pc (ps_callV ci tm k (md tm).2.2.1 (pc + 3) hd) := by
  intro ls st h r hr
  simp only [ps_callV] at hr
  split at hr
  · split at hr
    · rename_i b r0 hst o9 c0 fs hg
      split at hr
      · rename_i hci
        obtain ⟨rfl, hall, hlow⟩ := hci
        cases hr
        have hlen : (st.take k).length = k := by
          have : (st.drop k).length = r0.length + 1 := by rw [hst]; rfl
          rw [List.length_drop] at this
          rw [List.length_take]
          omega
        refine ⟨tm, .ref b :: (st.take k).reverse, r0, hd ls, rfl, by rw [List.length_cons, List.length_reverse, hlen]; exact hm, by simpa [ps_okA] using hall, hH ls, ?_⟩
        intro X p l e R s m args below meth c h0 d o h' hat hj hj' hc hs hf hlo hM H locs la hL hR hz
        have hts := hat.2.2.2.2.1
        have hw : po_w (md tm) = Cond.code (md tm).1 (md tm).2.1 (md tm).2.2.1 (md tm).2.2.2.1 :: po_ws := by unfold po_w; rw [if_pos hnt]
        obtain ⟨r1, r2, r3, ws, hP, hD, hS, hI⟩ := id hR
        obtain ⟨i, hi⟩ := hI _ _ hg
        have hG : GoodIn po_ws (wsV own index C (md tm).1 (po_w (md tm))) := by
          rw [hw]
          intro w hw'
          unfold wsV at hw'
          rcases List.mem_append.mp hw' with q | q
          · simp only [List.mem_cons, List.not_mem_nil, or_false] at q
            rcases q with rfl | rfl | rfl | rfl
            · exact po_gw _ h1
            · exact po_gw _ h2
            · exact po_gw _ h3
            · exact po_gw _ h4
          · exact po_gc h5 w q
        have hC0 := hat.2.2.2.2.2.2.1
        obtain ⟨j1, j2, j3⟩ := hj
        obtain ⟨i1, i2, i3⟩ := hj'
        exact vx_runV (As := (st.take k).reverse) (rest := r0) (n := k) ⟨hat.1, hat.2.1, hat.2.2.1, hat.2.2.2.1, hts⟩ hM (cwV k hts hG hw rfl rfl ⟨hy, hmh.1, hmh.2, hk⟩ ⟨by show d + 6 + 1 ≤ _; omega, by show 8 + (_ + 11) + (100 * d + 200) ≤ _; omega⟩)
          ⟨po_Pc.blind, va_recv hC0.1 hP hcl.1 hi, po_pre hC0 hR hz⟩ rfl (by rw [List.length_reverse]; exact hlen) hL.2.2.1 (by
            show st = (st.take k).reverse.reverse ++ .ref b :: r0
            rw [List.reverse_reverse, ← hst, List.take_append_drop]) (by show 2 * 0 + _ ≤ 8; have := po_small hlow; omega) hdc ⟨by omega, by omega⟩
      · cases hr
    · cases hr
  · cases hr
theorem po_hw (hnt : (md tm).2.2.2.2 = []) : po_w (md tm) = Cond.code (md tm).1 (md tm).2.1 (md tm).2.2.1 (md tm).2.2.2.1 :: po_ws := by unfold po_w; rw [if_pos hnt]
theorem po_callS {k index : Nat} {hd : List Value → String → Option (Nat × List Value)} (hdc : decode cc pc = .ok (.invokestatic index, 3))
    (hnt : (md tm).2.2.2.2 = []) (h1 : Cond.methodLink own index (md tm).1 ∈ po_ws) (h2 : Cond.static (md tm).1 ∈ po_ws) (h4 : Cond.initialized (md tm).1.cls ∈ po_ws) (h5 : Cond.code (md tm).1 (md tm).2.1 (md tm).2.2.1 (md tm).2.2.2.1 ∈ po_ws)
    (hmh : (md tm).1.cls ≠ "java/lang/invoke/MethodHandle" ∧ (md tm).1.cls ≠ "java/lang/invoke/VarHandle") (hk : (parseMethodDescriptor (md tm).1.desc).map (fun d => d.parameters.length) = some k) (hm : k ≤ (md tm).2.2.1) (hm2 : (md tm).2.2.1 ≤ 80) (hH : ∀ ls, po_Hd own cc nL ini tbl pc ls (hd ls)) :
    po_C md own cc nL ini tbl pc (ps_callS tm k (md tm).2.2.1 (pc + 3) hd) := by
  intro ls st h r hr
  simp only [ps_callS] at hr
  split at hr
  · rename_i hci
    obtain ⟨hkl, hall, hlow⟩ := hci
    cases hr
    have hlen : (st.take k).length = k := by
      rw [List.length_take]
      omega
    refine ⟨tm, (st.take k).reverse, st.drop k, hd ls, rfl, by rw [List.length_reverse, hlen]; exact hm, by simpa using hall, hH ls, ?_⟩
    intro X p l e R s m args below meth c h0 d o h' hat hj hj' hc hs hf hlo hM H locs la hL hR hz
    have hts := hat.2.2.2.2.1
    have hw := po_hw hnt
    have hC0 := hat.2.2.2.2.2.2.1
    obtain ⟨j1, j2, j3⟩ := hj
    obtain ⟨i1, i2, i3⟩ := hj'
    exact vx_runS (As := (st.take k).reverse) (rest := st.drop k) (n := k) ⟨hat.1, hat.2.1, hat.2.2.1, hat.2.2.2.1, hts⟩ hM ⟨callB_of k hts (by rw [hw]; exact po_gc h5) hw rfl rfl (hts _ h4) (hts _ h1) ⟨hmh.1, hmh.2, hk⟩ ⟨by show d + 6 + 1 ≤ _; omega, by show 8 + (_ + 11) + (100 * d + 200) ≤ _; omega⟩, hts _ h2⟩
      ⟨po_Pc.blind, po_pre hC0 hR hz⟩ rfl (by rw [List.length_reverse]; exact hlen) hL.2.2.1 (by
        show st = (st.take k).reverse.reverse ++ st.drop k
        rw [List.reverse_reverse, List.take_append_drop]) (by show 2 * 0 + _ ≤ 8; have := po_small hlow; omega) hdc ⟨by omega, by omega⟩
  · cases hr
/-- a static method with an exception table -/
theorem po_callSX {k index : Nat} {hd : List Value → String → Option (Nat × List Value)} (hdc : decode cc pc = .ok (.invokestatic index, 3))
    (hnt : (md tm).2.2.2.2 ≠ []) (h1 : Cond.methodLink own index (md tm).1 ∈ po_ws) (h2 : Cond.static (md tm).1 ∈ po_ws) (h4 : Cond.initialized (md tm).1.cls ∈ po_ws) (h5 : Cond.codeWith (md tm).1 (md tm).2.1 (md tm).2.2.1 (md tm).2.2.2.1 (md tm).2.2.2.2 ∈ po_ws)
    (hmh : (md tm).1.cls ≠ "java/lang/invoke/MethodHandle" ∧ (md tm).1.cls ≠ "java/lang/invoke/VarHandle") (hk : (parseMethodDescriptor (md tm).1.desc).map (fun d => d.parameters.length) = some k) (hm : k ≤ (md tm).2.2.1) (hm2 : (md tm).2.2.1 ≤ 80) (hH : ∀ ls, po_Hd own cc nL ini tbl pc ls (hd ls)) :
    po_C md own cc nL ini tbl pc (ps_callS tm k (md tm).2.2.1 (pc + 3) hd) := by
  intro ls st h r hr
  simp only [ps_callS] at hr
  split at hr
  · rename_i hci
    obtain ⟨hkl, hall, hlow⟩ := hci
    cases hr
    have hlen : (st.take k).length = k := by
      rw [List.length_take]
      omega
    refine ⟨tm, (st.take k).reverse, st.drop k, hd ls, rfl, by rw [List.length_reverse, hlen]; exact hm, by simpa using hall, hH ls, ?_⟩
    intro X p l e R s m args below meth c h0 d o h' hat hj hj' hc hs hf hlo hM H locs la hL hR hz
    have hts := hat.2.2.2.2.1
    have hw : po_w (md tm) = Cond.codeWith (md tm).1 (md tm).2.1 (md tm).2.2.1 (md tm).2.2.2.1 (md tm).2.2.2.2 :: po_ws := by unfold po_w; rw [if_neg hnt]
    have hC0 := hat.2.2.2.2.2.2.1
    have hG : GoodIn po_ws (po_w (md tm)) := by rw [hw]; exact po_gc h5
    obtain ⟨j1, j2, j3⟩ := hj
    obtain ⟨i1, i2, i3⟩ := hj'
    exact vx_runSX (As := (st.take k).reverse) (rest := st.drop k) (n := k) (hh := (md tm).2.2.2.2) ⟨hat.1, hat.2.1, hat.2.2.1, hat.2.2.2.1, hts⟩ hM
      ⟨⟨rfl, rfl, by show d + 6 + 1 ≤ _; omega, by show 8 + (_ + 11) + (100 * d + 200) ≤ _; omega, pay_in hts hG, by rw [hw]; exact List.mem_cons_self⟩, hts _ h5, hts _ h4, hmh, fun sig hsig => by
        rw [hsig] at hk
        exact (Option.some.inj hk).symm, hts _ h1, hts _ h2⟩
      ⟨po_Pc.blind, po_pre hC0 hR hz⟩ rfl (by rw [List.length_reverse]; exact hlen) hL.2.2.1 (by
        show st = (st.take k).reverse.reverse ++ st.drop k
        rw [List.reverse_reverse, List.take_append_drop]) (by show 2 * 0 + _ ≤ 8; have := po_small hlow; omega) hdc ⟨by omega, by omega⟩
  · cases hr
/-- a constructor, of the class itself or of one that may be called; host: of a nest mate's private one -/
theorem po_callI {ci k index N : Nat} {C : String} {T : u_T} {ty : Nat → FieldType} {hd : List Value → String → Option (Nat × List Value)} (hdc : decode cc pc = .ok (.invokespecial index, 3)) (hcl : po_cl ci C T N ty)
    (hy1 : (md tm).1.name = "<init>") (hnt : (md tm).2.2.2.2 = []) (hret : (md tm).2.2.2.1 = none) (h1 : Cond.methodLink own index (md tm).1 ∈ po_ws ∨ ∃ host, Cond.methodLinkNest own index (md tm).1 host ∈ po_wt) (h2 : Cond.instanceMethod (md tm).1 ∈ po_ws) (h4 : Cond.initialized (md tm).1.cls ∈ po_ws) (h5 : Cond.code (md tm).1 (md tm).2.1 (md tm).2.2.1 (md tm).2.2.2.1 ∈ po_ws)
    (hmh : (md tm).1.cls ≠ "java/lang/invoke/MethodHandle" ∧ (md tm).1.cls ≠ "java/lang/invoke/VarHandle") (hk : (parseMethodDescriptor (md tm).1.desc).map (fun d => d.parameters.length) = some k) (hm : k + 1 ≤ (md tm).2.2.1) (hm2 : (md tm).2.2.1 ≤ 80) (hH : ∀ ls, po_Hd own cc nL ini tbl pc ls (hd ls)) :
    po_C md own cc nL ini tbl pc (ps_callV ci tm k (md tm).2.2.1 (pc + 3) hd) := by
  intro ls st h r hr
  simp only [ps_callV] at hr
  split at hr
  · split at hr
    · rename_i b r0 hst o9 c0 fs hg
      split at hr
      · rename_i hci
        obtain ⟨rfl, hall, hlow⟩ := hci
        cases hr
        have hlen : (st.take k).length = k := by
          have : (st.drop k).length = r0.length + 1 := by rw [hst]; rfl
          rw [List.length_drop] at this
          rw [List.length_take]
          omega
        refine ⟨tm, .ref b :: (st.take k).reverse, r0, hd ls, rfl, by rw [List.length_cons, List.length_reverse, hlen]; exact hm, by simpa [ps_okA] using hall, hH ls, ?_⟩
        intro X p l e R s m args below meth c h0 d o h' hat hj hj' hc hs hf hlo hM H locs la hL hR hz
        have hts := hat.2.2.2.2.1
        have hw := po_hw hnt
        rw [hret] at hw h5
        have hC0 := hat.2.2.2.2.2.2.1
        have hG : GoodIn po_ws (po_w (md tm)) := by rw [hw]; exact po_gc h5
        obtain ⟨j1, j2, j3⟩ := hj
        obtain ⟨i1, i2, i3⟩ := hj'
        have hp : PreS s H (po_Pc X (.ref b :: (st.take k).reverse) h) (.ref b :: (st.take k).reverse) := ⟨po_Pc.blind, po_pre hC0 hR hz⟩
        have hstk : (F0 m pc la st).stack = (st.take k).reverse.reverse ++ .ref b :: r0 := by
          show st = _
          rw [List.reverse_reverse, ← hst, List.take_append_drop]
        have hsm : 2 * (F0 m pc la st).monitorRoom + (r0.map fun v => v.category).sum ≤ 8 := by
          show 2 * 0 + _ ≤ 8
          have := po_small hlow
          omega
        rcases h1 with h1 | ⟨host, h1⟩
        · exact vx_runI (As := (st.take k).reverse) (rest := r0) (n := k) ⟨hat.1, hat.2.1, hat.2.2.1, hat.2.2.2.1, hts⟩ hM ⟨callB_of k hts hG hw rfl rfl (hts _ h4) (hts _ h1) ⟨hmh.1, hmh.2, hk⟩ ⟨by show d + 6 + 1 ≤ _; omega, by show 8 + (_ + 11) + (100 * d + 200) ≤ _; omega⟩, hy1, hts _ h2⟩
            hp rfl (by rw [List.length_reverse]; exact hlen) hL.2.2.1 hstk hsm hdc ⟨by omega, by omega⟩
        · exact vx_runIN (host := host) (As := (st.take k).reverse) (rest := r0) (n := k) ⟨hat.1, hat.2.1, hat.2.2.1, hat.2.2.2.1, hts⟩ hM ⟨va_cnB k hts hG hw rfl rfl (hC0.2.2.2.2.2.2.1 _ h1) (hts _ h4) ⟨hmh.1, hmh.2, hk⟩ ⟨by show d + 6 + 1 ≤ _; omega, by show 8 + (_ + 11) + (100 * d + 200) ≤ _; omega⟩, hy1, hts _ h2⟩
            hp rfl (by rw [List.length_reverse]; exact hlen) hL.2.2.1 hstk hsm hdc ⟨by omega, by omega⟩
      · cases hr
    · cases hr
  · cases hr
end PC
