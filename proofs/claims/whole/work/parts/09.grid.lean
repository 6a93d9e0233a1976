/-! new int[7][7]: eight cells at once -/
theorem po_Rep.news {X : po_X} {h : pm_H} {H H1 : Heap} {locs : List Loc} (k : Nat) (es : Nat → pm_E) (n : Nat) (hR : po_Rep X h H locs) (hz : H.size = pm_size h) (hc : ∀ i, i < k → va_at X.1 pm_cls (pm_size h + i, po_cell X (es i)) H1) (hsz : H1.size = pm_size h + k) (hk : ∀ q, q < pm_size h → H1[q]? = H[q]?) :
    po_Rep X (fun q => if pm_size h ≤ q ∧ q < pm_size h + k then some (es (q - pm_size h)) else h.1 q, (pm_gap h, pm_size h + k, pm_cells h + k, pm_slots h + n), pm_cst h) H1 locs := by
  obtain ⟨h1, h2, h3, ws, hP, hD, hS, hI⟩ := hR
  have hlt : ∀ (k : Nat) (x : Nat × va_E), ws[k]? = some x → x.1 < pm_size h := fun k x hx => by rw [← hz]; exact (hP k x hx).lt
  have hkk : ∀ (k : Nat) (x : Nat × va_E), ws[k]? = some x → H1[x.1]? = H[x.1]? := fun k x hx => hk x.1 (hlt k x hx)
  have hb : po_b X ≤ pm_size h := by rw [← hz]; exact hS.1
  have hrow : ∀ (j : Nat) (x : Nat × va_E), ((List.range k).map fun i => ((pm_size h + i, po_cell X (es i)) : Nat × va_E))[j]? = some x → j < k ∧ x = (pm_size h + j, po_cell X (es j)) := fun j x hx => by
    rw [List.getElem?_map] at hx
    by_cases hj : j < k
    · rw [List.getElem?_range hj] at hx
      cases hx
      exact ⟨hj, rfl⟩
    · rw [List.getElem?_eq_none (by rw [List.length_range]; omega)] at hx
      cases hx
  refine ⟨h1, ?_, fun q hq1 hq2 => ?_, ws ++ (List.range k).map (fun i => (pm_size h + i, po_cell X (es i))), (hP.kept hkk).app (fun j x hx => ?_), ⟨fun i j x y hi hj hxy => ?_, fun j x hx => ?_⟩, ⟨Nat.le_trans hS.1 (by omega), fun x q1 q2 => (hk x (by rw [← hz]; exact Nat.lt_of_lt_of_le q1 hS.1)).trans (hS.2.1 x q1 q2), hS.2.2⟩, fun a e' h' => ?_⟩
  · show pm_size h + k + pm_gap h = po_b X + (pm_cells h + k)
    omega
  · have hq2 : q < pm_size h + k := hq2
    by_cases hq : pm_size h ≤ q
    · exact ⟨es (q - pm_size h), by simp [hq, hq2]⟩
    · obtain ⟨e', he'⟩ := h3 q hq1 (by omega)
      exact ⟨e', by simp [hq, he']⟩
  · obtain ⟨hj, rfl⟩ := hrow j x hx
    exact hc j hj
  · by_cases g1 : i < ws.length <;> by_cases g2 : j < ws.length
    · rw [List.getElem?_append_left g1] at hi
      rw [List.getElem?_append_left g2] at hj
      exact hD.1 i j x y hi hj hxy
    · rw [List.getElem?_append_left g1] at hi
      rw [List.getElem?_append_right (by omega)] at hj
      have q1 := hlt _ _ hi
      obtain ⟨-, rfl⟩ := hrow _ _ hj
      have : x.1 = pm_size h + (j - ws.length) := hxy
      omega
    · rw [List.getElem?_append_right (by omega)] at hi
      rw [List.getElem?_append_left g2] at hj
      have q1 := hlt _ _ hj
      obtain ⟨-, rfl⟩ := hrow _ _ hi
      have : pm_size h + (i - ws.length) = y.1 := hxy
      omega
    · rw [List.getElem?_append_right (by omega)] at hi hj
      obtain ⟨-, rfl⟩ := hrow _ _ hi
      obtain ⟨-, rfl⟩ := hrow _ _ hj
      have : pm_size h + (i - ws.length) = pm_size h + (j - ws.length) := hxy
      omega
  · by_cases g1 : j < ws.length
    · rw [List.getElem?_append_left g1] at hx
      exact hD.2 j x hx
    · rw [List.getElem?_append_right (by omega)] at hx
      obtain ⟨-, rfl⟩ := hrow _ _ hx
      exact Nat.le_trans hb (Nat.le_add_right _ _)
  · by_cases ha : pm_size h ≤ a ∧ a < pm_size h + k
    · have he : es (a - pm_size h) = e' := by simpa [ha] using h'
      subst he
      refine ⟨ws.length + (a - pm_size h), ?_⟩
      rw [List.getElem?_append_right (by omega), List.getElem?_map, List.getElem?_range (by omega)]
      have : pm_size h + (a - pm_size h) = a := by omega
      simp [this]
    · have h4 : h.1 a = some e' := by
        simp only [ha, if_false] at h'
        exact h'
      obtain ⟨j, hj⟩ := hI a e' h4
      exact ⟨j, by rw [List.getElem?_append_left (List.getElem?_eq_some_iff.mp hj).1]; exact hj⟩
theorem po_outer (c : ClassId) (N h0 : Nat) : ∀ i : Nat, Jvm.Free.Multi.outerC c N h0 i = arrV c N (fun j => va_rf (if j < i then some (h0 + 1 + j) else none))
  | 0 => by
    show ({ cls := c, slots := Array.replicate N .null, vm := .none } : Cell) = _
    rw [arrV_new]
    refine congrArg (arrV c N) (funext fun j => ?_)
    simp [va_rf]
  | i + 1 => by
    show (Jvm.Free.Multi.outerC c N h0 i).setSlot i (.ref (h0 + 1 + i)) = _
    rw [po_outer c N h0 i, arrV_store]
    refine congrArg (arrV c N) (funext fun j => ?_)
    by_cases e : j = i
    · subst e
      simp [updV, va_rf]
    · by_cases h : j < i
      · simp [updV, e, h, Nat.lt_succ_of_lt h]
      · simp [updV, e, h, show ¬ j < i + 1 by omega]
def po_grid (z : Nat) (i : Nat) : pm_E := if i = 0 then .inl (6, 7, .inr (.inr (.inr (.inr (ps_row7 z))))) else .inl (0, 7, .inl (fun _ => 0))
section PG
variable {own : String} {cc : ByteArray} {nL pc : Nat} {ini : Bool}
theorem po_new77 {index : Nat} (hd : decode cc pc = .ok (.multianewarray index 2, 4)) (h1 : Cond.classLink own index ("[" ++ (FieldType.array .int).toString) ∈ po_ws) (h2 : Cond.arrayOver (.array .int) ∈ po_wt) (h3 : Cond.arrayClass .int ∈ po_ws) : po_N own cc nL ini pc (ps_new77 (pc + 4)) := by
  intro ls st h r hr
  simp only [ps_new77] at hr
  split at hr
  · split at hr
    · rename_i n k0 r0 hci
      obtain ⟨hgap, rfl, rfl⟩ := hci
      simp only [pm_next, Option.some.injEq] at hr
      subst hr
      refine ⟨_, rfl, ⟨Nat.le_add_right _ _, Nat.le_add_right _ _, Nat.le_refl _⟩, fun X p l e R s m args below meth c h0 Q hat hj hc hs k H locs la hL hR => ?_⟩
      refine po_exact hat hj hgap hR fun hz => ?_
      have hts := hat.2.2.2.2.1
      have hK := hat.2.2.2.2.2.2.1.1
      obtain ⟨j1, j2, j3⟩ := hj
      have hc' : pm_cells h + 8 - pm_cells h0 ≤ R.cells := hc
      have hs' : pm_slots h + 56 - pm_slots h0 ≤ R.slots := hs
      have e7 : (7 : Int32).toNatClampNeg = 7 := by decide
      intro T hT Xs
      have hb := hat.2.1
      obtain ⟨vm₁, cA, comp, -, fA, fC, hO, -, X', step⟩ := Xs.multianewarray2F hat.1 hat.2.2.2.1 (hts _ h1) (hat.2.2.2.2.2.2.1.2.2.2.2.2.2.1 _ h2) (hts _ h3) (g := F0 m pc la (.int 7 :: .int 7 :: r0)) rfl (by rw [hb]; exact hd) rfl (by decide) (by decide) (by decide) (by decide) (by decide) (by decide) (by decide) (by rw [e7]; omega) (by rw [e7]; omega)
      rw [e7] at X' step
      have hcA : cA = X.2.1 6 := po_tyc hK 6 (by decide) fA
      have hcB : comp = X.2.1 0 := po_tyc hK 0 (by decide) fC
      subst hcA hcB
      generalize hF : Jvm.Free.Multi.fill (T.setVm vm₁) (X.2.1 6) (X.2.1 0) 7 7 (defaultValue .int) 7 = F at X' step
      have hTh : (T.setVm vm₁).heap = H := hT
      obtain ⟨f1, f2, -, -⟩ := Jvm.Free.Multi.fill_facts (T.setVm vm₁) (X.2.1 6) (X.2.1 0) 7 7 (defaultValue .int) 7
      rw [hF, hTh] at f1 f2
      have hold : ∀ x : Nat, x < H.size → F.heap[x]? = H[x]? := fun x hx => by
        have := Jvm.Free.Multi.fill_old (T.setVm vm₁) (X.2.1 6) (X.2.1 0) 7 7 (defaultValue .int) (a := x) (by rw [hTh]; exact hx) 7
        rw [hF, hTh] at this
        exact this
      have hrow : ∀ j : Nat, j < 7 → F.heap[H.size + 1 + j]? = some (vp_cell (X.2.1 0) (7, .inl (fun _ => 0))) := fun j hj => by
        have := Jvm.Free.Multi.fill_inner (T.setVm vm₁) (X.2.1 6) (X.2.1 0) 7 7 (defaultValue .int) 7 j hj
        rw [hF, hTh] at this
        rw [this]
        show some ({ cls := X.2.1 0, slots := Array.replicate 7 (defaultValue .int), vm := .none } : Cell) = _
        rw [arrV_new]
        rfl
      rw [po_outer] at f2
      have hrep := hR.news (H1 := F.heap) 8 (po_grid (pm_size h)) 56 hz (fun i hi => by
        by_cases hi0 : i = 0
        · subst hi0
          show F.heap[pm_size h + 0]? = some (vp_cell (X.2.1 6) (7, .inr (.inr (.inr (.inr (ps_row7 (pm_size h)))))))
          rw [Nat.add_zero, ← hz, f2]
          rfl
        · have hg : po_grid (pm_size h) i = .inl (0, 7, .inl (fun _ => 0)) := by simp [po_grid, hi0]
          rw [hg]
          show F.heap[pm_size h + i]? = some (vp_cell (X.2.1 0) (7, .inl (fun _ => 0)))
          have := hrow (i - 1) (by omega)
          rw [show H.size + 1 + (i - 1) = pm_size h + i by omega] at this
          exact this) (by rw [f1]; omega) (fun q hq => hold q (by omega))
      have hfun : (fun q => if q = pm_size h then some (Sum.inl (6, 7, Sum.inr (Sum.inr (Sum.inr (Sum.inr (ps_row7 (pm_size h))))))) else if pm_size h < q ∧ q < pm_size h + 8 then some (Sum.inl (0, 7, Sum.inl (fun _ => 0))) else h.1 q : Nat → Option pm_E)
          = (fun q => if pm_size h ≤ q ∧ q < pm_size h + 8 then some (po_grid (pm_size h) (q - pm_size h)) else h.1 q) := by
        funext q
        by_cases g1 : q = pm_size h
        · subst g1
          simp [po_grid]
        · by_cases g2 : pm_size h < q ∧ q < pm_size h + 8
          · have g3 : q - pm_size h ≠ 0 := by omega
            have g4 : pm_size h ≤ q := by omega
            simp [g1, g2, g4, g3, po_grid]
          · have g3 : ¬ (pm_size h ≤ q ∧ q < pm_size h + 8) := by omega
            simp [g1, g2, g3]
      rw [hfun] at k
      have hkk := k F.heap locs la hL hrep
      have q1 : pm_cells h + 8 - pm_cells h0 = pm_cells h - pm_cells h0 + 1 + 7 := by omega
      have q2 : pm_slots h + 56 - pm_slots h0 = pm_slots h - pm_slots h0 + 7 + 7 * 7 := by omega
      have hkk : W p l e R s m args below meth c F.heap locs (pm_cells h + 8 - pm_cells h0) (pm_slots h + 56 - pm_slots h0) Q (F0 m (pc + 4) la (.ref (pm_size h) :: r0)) := hkk
      rw [q1, q2] at hkk
      obtain ⟨t, a1, b1⟩ := hkk F rfl X'
      rw [hT, hz] at step
      exact ⟨t, step t a1, b1⟩
    · cases hr
  · cases hr
end PG
