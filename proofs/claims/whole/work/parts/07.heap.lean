/-! EACH STEP .. : those that look into the heap or change it -/
theorem po_vin {i : Int32} {n : Nat} (h : ps_in i n = true) : vp_in i n := by
  simp only [ps_in, Bool.and_eq_true, decide_eq_true_eq] at h
  exact vp_in_iff.mpr h
theorem po_neg {z : Int32} (h : 0 ≤ z.toInt) : ¬ z < 0 := fun q => by
  have := Int32.lt_iff_toInt_lt.mp q
  simp at this
  omega
/-- the exact end of the heap, while nothing was thrown -/
theorem po_exact {X : po_X} {p : Program} {l : Launch} {e : Env} {R : Room} {s : State} {m : MethodId} {args : Array Value} {below : List Frame} {meth : Method} {c : Code} {h0 h : pm_H} {own : String} {cc : ByteArray} {nL : Nat} {ini : Bool} {H : Heap} {locs : List Loc} {Q : State → Prop} {g : JFrame}
    (hat : po_At X p l R s m args meth c h0 own cc nL ini) (hj : po_J h0 h) (hg : pm_gap h = 0) (hR : po_Rep X h H locs)
    (k : H.size = pm_size h → W p l e R s m args below meth c H locs (pm_cells h - pm_cells h0) (pm_slots h - pm_slots h0) Q g) : W p l e R s m args below meth c H locs (pm_cells h - pm_cells h0) (pm_slots h - pm_slots h0) Q g := by
  intro T hT Y
  have h1 := Y.heapSize
  rw [hT] at h1
  have h2 := hR.size
  obtain ⟨-, -, -, -, -, -, -, -, hz, hz2, -⟩ := hat
  obtain ⟨j1, j2, j3⟩ := hj
  have hg0 : pm_gap h0 = 0 := by omega
  have h3 := hz hg0
  have h4 := hR.2.1
  exact k (by omega) T hT Y
/-- a class that the heap holds objects of -/
def po_cl (ci : Nat) (C : String) (T : u_T) (N : Nat) (ty : Nat → FieldType) : Prop :=
  pm_cls[ci]? = some (C, T, N) ∧ (∀ w ∈ u_ws C T N, w ∈ po_ws) ∧ (∀ k, k < N → parseFieldDescriptor (T k).2.2.1 = some (ty k)) ∧ (∀ a, a < N → ∀ b, b < N → a ≠ b → (T a).2.1 ≠ (T b).2.1)
def po_ok (ok : Value → Bool) (ty : FieldType) : Prop := ∀ v, ok v = true → narrow ty v = v ∧ fits ty v = true
theorem po_okI : po_ok ps_okI .int := fun v h => by cases v <;> first | exact ⟨rfl, rfl⟩ | cases h
theorem po_okZ : po_ok ps_okZ .boolean := fun v h => by
  cases v <;> first | cases h | skip
  rename_i x
  simp only [ps_okZ, Bool.or_eq_true, beq_iff_eq] at h
  rcases h with rfl | rfl <;> exact ⟨by decide, by decide⟩
theorem po_okRo {C : String} : po_ok ps_okR (.object C) := fun v h => by cases v <;> first | exact ⟨rfl, rfl⟩ | cases h
theorem po_okRa {t : FieldType} : po_ok ps_okR (.array t) := fun v h => by cases v <;> first | exact ⟨rfl, rfl⟩ | cases h
section PH
variable {own : String} {cc : ByteArray} {nL pc : Nat} {ini : Bool}
theorem po_nonnull {off : Int} {tgt : Nat} (hd : decode cc pc = .ok (.ifnonnull off, 3)) (ht : (pc : Int) + off = (tgt : Int)) : po_N own cc nL ini pc (ps_nonnull tgt) := by
  intro ls st h r hf
  simp only [ps_nonnull] at hf
  split at hf
  · simp only [pm_next, Option.some.injEq] at hf
    subst hf
    exact ⟨_, rfl, po_J.rf, fun X p l e R s m args below meth c h0 Q hat hj hc hs k H locs la hL hR => lv_ifnonnull hat.1 hat.2.1 hd ht (k H locs la hL hR)⟩
  · cases hf
theorem po_null {off : Int} (hd : decode cc pc = .ok (.ifnull off, 3)) : po_N own cc nL ini pc (ps_nonnull (pc + 3)) := by
  intro ls st h r hf
  simp only [ps_nonnull] at hf
  split at hf
  · simp only [pm_next, Option.some.injEq] at hf
    subst hf
    exact ⟨_, rfl, po_J.rf, fun X p l e R s m args below meth c h0 Q hat hj hc hs k H locs la hL hR => lv_ifnull hat.1 hat.2.1 hd (k H locs la hL hR)⟩
  · cases hf
theorem po_table {dflt lo hi : Int} {offs : Array Int} {len : Nat} {f : Int32 → Nat} (hd : decode cc pc = .ok (.tableswitch dflt lo hi offs, len))
    (hf : ∀ x : Int32, (x.toInt < lo ∨ hi < x.toInt → (pc : Int) + dflt = (f x : Int)) ∧ (¬ x.toInt < lo → ¬ hi < x.toInt → ∃ off, offs[(x.toInt - lo).toNat]? = some off ∧ (pc : Int) + off = (f x : Int))) : po_N own cc nL ini pc (ps_switch f) := by
  intro ls st h r hr
  simp only [ps_switch] at hr
  split at hr
  · rename_i x r0
    simp only [pm_next, Option.some.injEq] at hr
    subst hr
    refine ⟨_, rfl, po_J.rf, fun X p l e R s m args below meth c h0 Q hat hj hc hs k H locs la hL hR => ?_⟩
    obtain ⟨f1, f2⟩ := hf x
    by_cases q1 : x.toInt < lo
    · exact lv_tableOut hat.1 hat.2.1 hd (Or.inl q1) (f1 (Or.inl q1)) (k H locs la hL hR)
    · by_cases q2 : hi < x.toInt
      · exact lv_tableOut hat.1 hat.2.1 hd (Or.inr q2) (f1 (Or.inr q2)) (k H locs la hL hR)
      · obtain ⟨off, o1, o2⟩ := f2 q1 q2
        exact lv_tableIn hat.1 hat.2.1 hd q1 q2 o1 o2 (k H locs la hL hR)
  · cases hr
theorem po_lookup {dflt : Int} {ps : Array (Int × Int)} {len : Nat} {f : Int32 → Nat} (hd : decode cc pc = .ok (.lookupswitch dflt ps, len)) (hp : (ps.toList.zip (ps.toList.drop 1)).all (fun (a, next) => a.1 < next.1) = true)
    (hf : ∀ x : Int32, (pc : Int) + Op.lookupswitch.offset ps.toList dflt x.toInt = (f x : Int)) : po_N own cc nL ini pc (ps_switch f) := by
  intro ls st h r hr
  simp only [ps_switch] at hr
  split at hr
  · rename_i x r0
    simp only [pm_next, Option.some.injEq] at hr
    subst hr
    exact ⟨_, rfl, po_J.rf, fun X p l e R s m args below meth c h0 Q hat hj hc hs k H locs la hL hR => lv_lookup hat.1 hat.2.1 hd hp rfl (hf x) (k H locs la hL hR)⟩
  · cases hr
theorem po_getf {ci N k index : Nat} {C : String} {T : u_T} {ty : Nat → FieldType} (hd : decode cc pc = .ok (.getfield index, 3)) (hcl : po_cl ci C T N ty) (hk : k < N) (hw : Cond.fieldLink own index (T k).1 (T k).2.1 (T k).2.2.1 ∈ po_ws) : po_N own cc nL ini pc (ps_getf ci k (pc + 3)) := by
  intro ls st h r hr
  simp only [ps_getf] at hr
  split at hr
  · split at hr
    · rename_i a r0 c0 fs hg
      split at hr
      · rename_i hci
        subst hci
        split at hr
        · rename_i v hv
          simp only [pm_next, Option.some.injEq] at hr
          subst hr
          refine ⟨_, rfl, po_J.rf, fun X p l e R s m args below meth c h0 Q hat hj hc hs k H locs la hL hR => ?_⟩
          obtain ⟨h1, h2, h3, ws, hP, hD, hS, hI⟩ := id hR
          obtain ⟨i, hi⟩ := hI _ _ hg
          exact va_get hat.1 hat.2.1 hat.2.2.2.2.1 hcl.2.1 hat.2.2.2.1 hat.2.2.2.2.2.2.1.1 hP i hi hcl.1 _ hk (hat.2.2.2.2.1 _ hw) (fun _ z => z) hv hd (k H locs la hL hR)
        · cases hr
      · cases hr
    · cases hr
  · cases hr
theorem po_putf {ci N k index : Nat} {C : String} {T : u_T} {ty : Nat → FieldType} {ok : Value → Bool} (hd : decode cc pc = .ok (.putfield index, 3)) (hcl : po_cl ci C T N ty) (hk : k < N) (hw : Cond.fieldLink own index (T k).1 (T k).2.1 (T k).2.2.1 ∈ po_ws)
    (hok : po_ok ok (ty k)) (hfin : (T k).2.2.2 = false ∨ ((T k).2.2.2 = true ∧ ini = true ∧ (T k).1 = own)) : po_N own cc nL ini pc (ps_putf ok ci k (pc + 3)) := by
  intro ls st h r hr
  simp only [ps_putf] at hr
  split at hr
  · split at hr
    · rename_i v a r0 o9 c0 fs hg
      split at hr
      · rename_i hci
        obtain ⟨rfl, hlen, hv⟩ := hci
        simp only [pm_next, Option.some.injEq] at hr
        subst hr
        refine ⟨_, rfl, ⟨Nat.le_refl _, Nat.le_refl _, Nat.le_refl _⟩, fun X p l e R s m args below meth c h0 Q hat hj hc hs k H locs la hL hR => ?_⟩
        obtain ⟨h1, h2, h3, ws, hP, hD, hS, hI⟩ := id hR
        obtain ⟨i, hi⟩ := hI _ _ hg
        obtain ⟨o1, o2⟩ := hok v hv
        rcases hfin with hfin | ⟨hf1, hf2, hf3⟩
        · exact va_put hat.1 hat.2.1 hat.2.2.2.2.1 hcl.2.1 ty hcl.2.2.1 hcl.2.2.2 hat.2.2.2.1 hat.2.2.2.2.2.2.1.1 hP hD hS i hi hcl.1 _ hk (hat.2.2.2.2.1 _ hw) (fun _ z => z) hfin (hcl.2.2.1 _ hk) o1 o2 hlen hd
            (fun H1 locs1 hP1 hD1 hS1 => k H1 locs1 la hL (po_Rep.put (.inr (_, fs.set _ v)) h1 h2 h3 hI hi hP1 hD1 hS1))
        · exact va_putF hat.1 hat.2.1 hat.2.2.2.2.1 hcl.2.1 ty hcl.2.2.1 hcl.2.2.2 hat.2.2.2.1 hat.2.2.2.2.2.2.1.1 hP hD hS i hi hcl.1 _ hk (hat.2.2.2.2.1 _ hw) (fun _ z => z) hf1 (hat.2.2.2.2.2.2.2.2.2.2.2.2.2 hf2) hf3 (hcl.2.2.1 _ hk) o1 o2 hlen hd
            (fun H1 locs1 hP1 hD1 hS1 => k H1 locs1 la hL (po_Rep.put (.inr (_, fs.set _ v)) h1 h2 h3 hI hi hP1 hD1 hS1))
      · cases hr
    · cases hr
  · cases hr
theorem po_iald (hd : decode cc pc = .ok (.iaload, 1)) : po_N own cc nL ini pc (ps_ald 0 (pc + 1)) := by
  intro ls st h r hr
  simp only [ps_ald] at hr
  split at hr
  · split at hr
    · rename_i i a r0 kd n f hg
      split at hr
      · rename_i hci
        obtain ⟨rfl, hin⟩ := hci
        simp only [pm_next, Option.some.injEq] at hr
        subst hr
        refine ⟨_, rfl, po_J.rf, fun X p l e R s m args below meth c h0 Q hat hj hc hs k H locs la hL hR => ?_⟩
        obtain ⟨h1, h2, h3, ws, hP, hD, hS, hI⟩ := id hR
        obtain ⟨j, hi⟩ := hI _ _ hg
        exact va_iald hat.1 hat.2.1 hat.2.2.2.2.2.2.1.1 hP j 0 hi (po_tys_at X 0 (by decide)) (po_vin hin) hd (k H locs la hL hR)
      · cases hr
    · cases hr
  · cases hr
theorem po_zald (hd : decode cc pc = .ok (.baload, 1)) : po_N own cc nL ini pc (ps_ald 1 (pc + 1)) := by
  intro ls st h r hr
  simp only [ps_ald] at hr
  split at hr
  · split at hr
    · rename_i i a r0 kd n f hg
      split at hr
      · rename_i hci
        obtain ⟨rfl, hin⟩ := hci
        simp only [pm_next, Option.some.injEq] at hr
        subst hr
        refine ⟨_, rfl, po_J.rf, fun X p l e R s m args below meth c h0 Q hat hj hc hs k H locs la hL hR => ?_⟩
        obtain ⟨h1, h2, h3, ws, hP, hD, hS, hI⟩ := id hR
        obtain ⟨j, hi⟩ := hI _ _ hg
        exact va_zald hat.1 hat.2.1 hat.2.2.2.2.2.2.1.1 hP j 1 hi (po_tys_at X 1 (by decide)) (po_vin hin) hd (k H locs la hL hR)
      · cases hr
    · cases hr
  · cases hr
theorem po_cald (hd : decode cc pc = .ok (.caload, 1)) : po_N own cc nL ini pc (ps_ald 2 (pc + 1)) := by
  intro ls st h r hr
  simp only [ps_ald] at hr
  split at hr
  · split at hr
    · rename_i i a r0 kd n f hg
      split at hr
      · rename_i hci
        obtain ⟨rfl, hin⟩ := hci
        simp only [pm_next, Option.some.injEq] at hr
        subst hr
        refine ⟨_, rfl, po_J.rf, fun X p l e R s m args below meth c h0 Q hat hj hc hs k H locs la hL hR => ?_⟩
        obtain ⟨h1, h2, h3, ws, hP, hD, hS, hI⟩ := id hR
        obtain ⟨j, hi⟩ := hI _ _ hg
        exact va_cald hat.1 hat.2.1 hat.2.2.2.2.2.2.1.1 hP j 2 hi (po_tys_at X 2 (by decide)) (po_vin hin) hd (k H locs la hL hR)
      · cases hr
    · cases hr
  · cases hr
theorem po_lald (hd : decode cc pc = .ok (.laload, 1)) : po_N own cc nL ini pc (ps_lald (pc + 1)) := by
  intro ls st h r hr
  simp only [ps_lald] at hr
  split at hr
  · split at hr
    · rename_i i a r0 kd n f hg
      split at hr
      · rename_i hci
        obtain ⟨rfl, hin⟩ := hci
        simp only [pm_next, Option.some.injEq] at hr
        subst hr
        refine ⟨_, rfl, po_J.rf, fun X p l e R s m args below meth c h0 Q hat hj hc hs k H locs la hL hR => ?_⟩
        obtain ⟨h1, h2, h3, ws, hP, hD, hS, hI⟩ := id hR
        obtain ⟨j, hi⟩ := hI _ _ hg
        exact va_lald hat.1 hat.2.1 hat.2.2.2.2.2.2.1.1 hP j 3 hi (po_tys_at X 3 (by decide)) (po_vin hin) hd (k H locs la hL hR)
      · cases hr
    · cases hr
  · cases hr
theorem po_iast (hd : decode cc pc = .ok (.iastore, 1)) : po_N own cc nL ini pc (ps_ast ps_okI 0 (pc + 1)) := by
  intro ls st h r hr
  simp only [ps_ast] at hr
  split at hr
  · split at hr
    · rename_i x i a r0 o9 kd n f hg
      split at hr
      · rename_i hci
        obtain ⟨rfl, hin, hok⟩ := hci
        simp only [pm_next, Option.some.injEq] at hr
        subst hr
        refine ⟨_, rfl, ⟨Nat.le_refl _, Nat.le_refl _, Nat.le_refl _⟩, fun X p l e R s m args below meth c h0 Q hat hj hc hs k H locs la hL hR => ?_⟩
        obtain ⟨h1, h2, h3, ws, hP, hD, hS, hI⟩ := id hR
        obtain ⟨j, hi⟩ := hI _ _ hg
        exact va_iast hat.1 hat.2.1 hat.2.2.2.2.2.2.1.1 hP hD hS j 0 hi (po_tys_at X 0 (by decide)) (po_vin hin) hd
          (fun H1 locs1 hP1 hD1 hS1 => k H1 locs1 la hL (po_Rep.put (.inl (0, n, .inl (upd f i.toNatClampNeg x))) h1 h2 h3 hI hi hP1 hD1 hS1))
      · cases hr
    · cases hr
  · cases hr
theorem po_narZ {x : Int32} (h : ps_okZ (.int x) = true) : vp_nar .boolean x = x := by
  simp only [ps_okZ, Bool.or_eq_true, beq_iff_eq] at h
  rcases h with rfl | rfl <;> decide
theorem po_narC {x : Int32} (h : ps_okC (.int x) = true) : vp_nar .char x = x := by
  simp only [ps_okC, Bool.and_eq_true, decide_eq_true_eq] at h
  obtain ⟨j, hj, rfl⟩ := nI_of (po_neg h.1)
  have h2 := h.2
  rw [nI_toInt hj] at h2
  have := (pk_charN (q := j) (by omega)).1
  unfold vp_nar
  rw [this]
theorem po_zast (hd : decode cc pc = .ok (.bastore, 1)) : po_N own cc nL ini pc (ps_ast ps_okZ 1 (pc + 1)) := by
  intro ls st h r hr
  simp only [ps_ast] at hr
  split at hr
  · split at hr
    · rename_i x i a r0 o9 kd n f hg
      split at hr
      · rename_i hci
        obtain ⟨rfl, hin, hok⟩ := hci
        simp only [pm_next, Option.some.injEq] at hr
        subst hr
        refine ⟨_, rfl, ⟨Nat.le_refl _, Nat.le_refl _, Nat.le_refl _⟩, fun X p l e R s m args below meth c h0 Q hat hj hc hs k H locs la hL hR => ?_⟩
        obtain ⟨h1, h2, h3, ws, hP, hD, hS, hI⟩ := id hR
        obtain ⟨j, hi⟩ := hI _ _ hg
        exact va_zast hat.1 hat.2.1 hat.2.2.2.2.2.2.1.1 hP hD hS j 1 hi (po_tys_at X 1 (by decide)) (po_vin hin) hd
          (fun H1 locs1 hP1 hD1 hS1 => by rw [po_narZ hok] at hP1 hD1; exact k H1 locs1 la hL (po_Rep.put (.inl (1, n, .inl (upd f i.toNatClampNeg x))) h1 h2 h3 hI hi hP1 hD1 hS1))
      · cases hr
    · cases hr
  · cases hr
theorem po_cast (hd : decode cc pc = .ok (.castore, 1)) : po_N own cc nL ini pc (ps_ast ps_okC 2 (pc + 1)) := by
  intro ls st h r hr
  simp only [ps_ast] at hr
  split at hr
  · split at hr
    · rename_i x i a r0 o9 kd n f hg
      split at hr
      · rename_i hci
        obtain ⟨rfl, hin, hok⟩ := hci
        simp only [pm_next, Option.some.injEq] at hr
        subst hr
        refine ⟨_, rfl, ⟨Nat.le_refl _, Nat.le_refl _, Nat.le_refl _⟩, fun X p l e R s m args below meth c h0 Q hat hj hc hs k H locs la hL hR => ?_⟩
        obtain ⟨h1, h2, h3, ws, hP, hD, hS, hI⟩ := id hR
        obtain ⟨j, hi⟩ := hI _ _ hg
        exact va_cast hat.1 hat.2.1 hat.2.2.2.2.2.2.1.1 hP hD hS j 2 hi (po_tys_at X 2 (by decide)) (po_vin hin) hd
          (fun H1 locs1 hP1 hD1 hS1 => by rw [po_narC hok] at hP1 hD1; exact k H1 locs1 la hL (po_Rep.put (.inl (2, n, .inl (upd f i.toNatClampNeg x))) h1 h2 h3 hI hi hP1 hD1 hS1))
      · cases hr
    · cases hr
  · cases hr
theorem po_last (hd : decode cc pc = .ok (.lastore, 1)) : po_N own cc nL ini pc (ps_last (pc + 1)) := by
  intro ls st h r hr
  simp only [ps_last] at hr
  split at hr
  · split at hr
    · rename_i x i a r0 o9 kd n f hg
      split at hr
      · rename_i hci
        obtain ⟨rfl, hin⟩ := hci
        simp only [pm_next, Option.some.injEq] at hr
        subst hr
        refine ⟨_, rfl, ⟨Nat.le_refl _, Nat.le_refl _, Nat.le_refl _⟩, fun X p l e R s m args below meth c h0 Q hat hj hc hs k H locs la hL hR => ?_⟩
        obtain ⟨h1, h2, h3, ws, hP, hD, hS, hI⟩ := id hR
        obtain ⟨j, hi⟩ := hI _ _ hg
        exact va_last hat.1 hat.2.1 hat.2.2.2.2.2.2.1.1 hP hD hS j 3 hi (po_tys_at X 3 (by decide)) (po_vin hin) hd
          (fun H1 locs1 hP1 hD1 hS1 => k H1 locs1 la hL (po_Rep.put (.inl (3, n, .inr (.inl (vp_updL f i.toNatClampNeg x)))) h1 h2 h3 hI hi hP1 hD1 hS1))
      · cases hr
    · cases hr
  · cases hr
theorem po_alen (hd : decode cc pc = .ok (.arraylength, 1)) : po_N own cc nL ini pc (ps_alen (pc + 1)) := by
  intro ls st h r hr
  simp only [ps_alen] at hr
  split at hr
  · split at hr
    · rename_i a r0 kd n f hg
      split at hr
      · rename_i hkd
        simp only [pm_next, Option.some.injEq] at hr
        subst hr
        refine ⟨_, rfl, po_J.rf, fun X p l e R s m args below meth c h0 Q hat hj hc hs k H locs la hL hR => ?_⟩
        obtain ⟨h1, h2, h3, ws, hP, hD, hS, hI⟩ := id hR
        obtain ⟨j, hi⟩ := hI _ _ hg
        exact va_alen hat.1 hat.2.1 hat.2.2.2.2.2.2.1.1 hP j kd hi (po_tys_at X kd hkd) rfl hd (k H locs la hL hR)
      · cases hr
    · cases hr
  · cases hr
theorem po_sld (hd : decode cc pc = .ok (.iaload, 1)) : po_N own cc nL ini pc (ps_sld (pc + 1)) := by
  intro ls st h r hr
  simp only [ps_sld] at hr
  split at hr
  · split at hr
    · rename_i i a r0 hci
      obtain ⟨rfl, hin⟩ := hci
      simp only [pm_next, Option.some.injEq] at hr
      subst hr
      refine ⟨_, rfl, po_J.rf, fun X p l e R s m args below meth c h0 Q hat hj hc hs k H locs la hL hR => ?_⟩
      obtain ⟨h1, h2, h3, ws, hP, hD, hS, hI⟩ := id hR
      obtain ⟨-, cX, cb, -⟩ := hat.2.2.2.2.2.2.1
      rw [h1] at hin ⊢
      exact va_sld hat.1 hat.2.1 cX cb (Nat.not_le.mpr cb) hS (po_vin hin) hd (by rw [h1] at k; exact k H locs la hL hR)
    · cases hr
  · cases hr
end PH
