/-! ENDS -/
def po_E (own : String) (cc : ByteArray) (nL : Nat) (ini : Bool) (ret : Option FieldType) (pc : Nat) (f : pm_S) : Prop := ∀ (ls st : List Value) (h : pm_H) (r : pm_F ⊕ (pm_K ⊕ (pm_O × pm_H))), f ls st h = some r →
  ∃ q : pm_O × pm_H, r = .inr (.inr q) ∧ po_J h q.2 ∧
  ∀ (X : po_X) (p : Program) (l : Launch) (e : Env) (R : Room) (s : State) (m : MethodId) (args : Array Value) (below : List Frame) (meth : Method) (c : Code) (h0 : pm_H),
    po_At X p l R s m args meth c h0 own cc nL ini → meth.sig.returnType = ret → ((∃ E, q.1 = .inr E) → ∀ x ∈ c.exceptionTable.toList, False) → po_J h0 h → pm_cells q.2 - pm_cells h0 ≤ R.cells → pm_slots q.2 - pm_slots h0 ≤ R.slots →
    ∀ (H : Heap) (locs : List Loc) (la : Array Slot), po_L la nL ls → po_Rep X h H locs →
      W p l e R s m args below meth c H locs (pm_cells h - pm_cells h0) (pm_slots h - pm_slots h0) (vx_MQ below (po_Qc X q.1 q.2) (po_XC X q.1 q.2) args s (pm_cells q.2 - pm_cells h0) (pm_slots q.2 - pm_slots h0) (po_A X)) (F0 m pc la st)
theorem po_Rep.any {X : po_X} {h : pm_H} {H : Heap} {locs : List Loc} (hR : po_Rep X h H locs) : ∀ q ∈ locs, po_A X q.base := by
  obtain ⟨-, -, -, ws, -, -, hS, -⟩ := hR
  exact hS.2.2
/-- the exact end of the heap, if nothing was thrown -/
theorem po_end {X : po_X} {p : Program} {l : Launch} {e : Env} {R : Room} {s : State} {m : MethodId} {args : Array Value} {below : List Frame} {meth : Method} {c : Code} {h0 h : pm_H} {own : String} {cc : ByteArray} {nL : Nat} {ini : Bool} {H : Heap} {locs : List Loc} {Q : State → Prop} {g : JFrame}
    (hat : po_At X p l R s m args meth c h0 own cc nL ini) (hj : po_J h0 h) (hR : po_Rep X h H locs)
    (k : (pm_gap h = 0 → H.size = pm_size h) → W p l e R s m args below meth c H locs (pm_cells h - pm_cells h0) (pm_slots h - pm_slots h0) Q g) : W p l e R s m args below meth c H locs (pm_cells h - pm_cells h0) (pm_slots h - pm_slots h0) Q g := by
  by_cases hg : pm_gap h = 0
  · exact po_exact hat hj hg hR fun hz => k fun _ => hz
  · exact k fun z => absurd z hg
theorem po_other.args {w : Cond} {s : State} {args : Array Value} (hw : po_other w = true) (h : w.before #[] s = true) : w.before args s = true := by
  unfold po_other at hw
  split at hw
  · exact va_Nw.use rfl h
  · exact va_Nw.use rfl h
  · exact va_Nw.use rfl h
  · exact va_AO.use h
  · exact h
  · cases hw
section PE
variable {own : String} {cc : ByteArray} {nL pc : Nat} {ini : Bool}
theorem po_return (hd : decode cc pc = .ok (.return_, 1)) : po_E own cc nL ini none pc ps_return := by
  intro ls st h r hr
  simp only [ps_return] at hr
  split at hr
  · simp only [pm_fin, Option.some.injEq] at hr
    subst hr
    refine ⟨_, rfl, po_J.rf, fun X p l e R s m args below meth c h0 hat hret hx hj hc hs H locs la hL hR => ?_⟩
    refine po_end hat hj hR fun hz => vx_ret (W.vret hat.1 hat.2.1 hret (fun t ht hW => ⟨none, rfl, rfl, locs, by rw [ht]; exact hR, by rw [ht]; exact hz⟩) hR.any hd hat.2.2.2.2.2.1)
  · cases hr
theorem po_ireturn {ok : Value → Bool} {ty : FieldType} (hd : decode cc pc = .ok (.ireturn, 1)) (hok : po_ok ok ty) : po_E own cc nL ini (some ty) pc (ps_ireturn ok) := by
  intro ls st h r hr
  simp only [ps_ireturn] at hr
  split at hr
  · split at hr
    · rename_i x hx1
      simp only [pm_fin, Option.some.injEq] at hr
      subst hr
      refine ⟨_, rfl, po_J.rf, fun X p l e R s m args below meth c h0 hat hret hx hj hc hs H locs la hL hR => ?_⟩
      refine po_end hat hj hR fun hz => vx_ret (W.zret hat.1 hat.2.1 hret (hok _ hx1).1 (fun t ht hW => ⟨some (.int x), rfl, rfl, locs, by rw [ht]; exact hR, by rw [ht]; exact hz⟩) hR.any hd hat.2.2.2.2.2.1)
    · cases hr
  · cases hr
theorem po_throw {ik ic : Nat} {E : String} {names : List String} (d0 : decode cc pc = .ok (.new ik, 3)) (d3 : decode cc (pc + 3) = .ok (.dup, 1)) (d4 : decode cc (pc + 4) = .ok (.invokespecial ic, 3)) (d7 : decode cc (pc + 7) = .ok (.athrow, 1))
    (hcls : Bundle.fit E = true) (hnames : ∀ n ∈ names, Bundle.fit n = true) (hnl : names.length ≤ 2) (hk : Cond.classLink own ik E ∈ po_ws) (hini : Cond.initialized E ∈ po_ws) (hat0 : ∀ w ∈ vx_at0 own ic E names, w ∈ po_ws ∨ w ∈ po_wt)
    (hgood : ∀ w ∈ Cond.classLink own ik E :: Cond.initialized E :: vx_at0 own ic E names, vx_ot w = true) {ret : Option FieldType} : po_E own cc nL ini ret pc (ps_throw E) := by
  intro ls st h r hr
  simp only [ps_throw] at hr
  split at hr
  · simp only [pm_fin, Option.some.injEq] at hr
    subst hr
    refine ⟨_, rfl, ⟨Nat.le_succ _, Nat.le_add_right _ _, Nat.le_succ _⟩, fun X p l e R s m args below meth c h0 hat hret hx hj hc hs H locs la hL hR => ?_⟩
    intro T hT Y
    have hsz : s.heap.size ≤ H.size := by
      have := Y.same.2.1
      rw [← hT]
      exact this
    have hts := hat.2.2.2.2.1
    obtain ⟨cK, cX, cb, cU, cN, cT, cO, -⟩ := hat.2.2.2.2.2.2.1
    obtain ⟨-, -, -, -, -, hlocks, -, hS0, -, -, htr, hf6, hl2, -⟩ := id hat
    obtain ⟨r1, r2, r3, ws, hP, hD, hS, hI⟩ := id hR
    obtain ⟨j1, j2, j3⟩ := hj
    have hc' : pm_cells h + 1 - pm_cells h0 ≤ R.cells := hc
    have hs' : pm_slots h + 6 - pm_slots h0 ≤ R.slots := hs
    have hkeep : ∀ a : Nat, a < X.2.2.1.size → ¬ po_A X a → s.heap[a]? = X.2.2.1[a]? := fun a h1 h2 => hS0.2.1 a h1 h2
    have hS1 : va_S (po_A X) s.heap H locs := ⟨hsz, fun q q1 q2 => by
      have hb : q < X.2.2.1.size := Nat.not_le.mp q2
      rw [hS.2.1 q hb q2, hS0.2.1 q hb q2], hS.2.2⟩
    refine (vx_throw0 (A := po_A X) (names := names) hat.1 hat.2.1 htr hat.2.2.2.1 hcls hnames (hts _ hk) (hts _ hini) (fun w hw => ?_) hgood (cU.kept hkeep) (cN.kept hkeep) hS1 (by rw [hL.2.2.1, hat.2.2.1]) d0 d3 d4 d7 (fun x hxm => (hx ⟨_, rfl⟩ x hxm).elim) (by omega) (by simp; omega) (by omega) (by omega) hlocks
      (fun t hv h1 h2 => ⟨rfl, locs, ⟨r1, ?_, r3, ws, hP.kept (fun k x hx => h2 x.1 ((hP k x hx).lt)), hD, ⟨Nat.le_trans hS.1 h1, fun q q1 q2 => (h2 q (Nat.lt_of_lt_of_le q1 hS.1)).trans (hS.2.1 q q1 q2), hS.2.2⟩, hI⟩, fun z => ?_⟩) hR.any ?_ ?_) T hT Y
    · rcases hat0 w hw with q | q
      · exact hts w q
      · exact po_other.args (List.mem_filter.mp q).2 (cO w q)
    · show pm_cells h - pm_cells h0 + 1 ≤ pm_cells h + 1 - pm_cells h0
      omega
    · show pm_slots h - pm_slots h0 + 6 ≤ pm_slots h + 6 - pm_slots h0
      omega
    · show pm_size h + (pm_gap h + 1) = po_b X + (pm_cells h + 1)
      omega
    · have z : pm_gap h + 1 = 0 := z
      omega
  · cases hr
end PE
