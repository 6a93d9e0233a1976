/-! EACH STEP .. : new cells, arrays of references, Math, System.arraycopy, the script -/
theorem po_tyc {X : po_X} {s : State} (hK : va_K X.1 pm_cls (po_tys X) s) (k : Nat) (hk : k < 7) {cA : ClassId} (h : s.vm.findClass ("[" ++ (po_kd k).toString) = some cA) : cA = X.2.1 k := by
  have h2 := (hK.2 k _ (po_tys_at X k hk)).2
  rcases (show k = 0 ∨ k = 1 ∨ k = 2 ∨ k = 3 ∨ k = 4 ∨ k = 5 ∨ k = 6 by omega) with rfl | rfl | rfl | rfl | rfl | rfl | rfl
  · exact Option.some.inj (h.symm.trans h2)
  · exact Option.some.inj (h.symm.trans h2)
  · exact Option.some.inj (h.symm.trans h2)
  · exact Option.some.inj (h.symm.trans h2)
  · obtain ⟨kA, comp, -, -, -, h5⟩ := h2
    exact Option.some.inj (h.symm.trans h5)
  · obtain ⟨kA, comp, -, -, -, h5⟩ := h2
    exact Option.some.inj (h.symm.trans h5)
  · exact Option.some.inj (h.symm.trans h2)
theorem po_small {st : List Value} (h : ps_low st = true) : (st.map fun v => v.category).sum ≤ 8 := of_decide_eq_true h
section PK
variable {own : String} {cc : ByteArray} {nL pc : Nat} {ini : Bool}
theorem po_new {ci N index : Nat} {C : String} {T : u_T} {ty : Nat → FieldType} {fs : List Value} (hd : decode cc pc = .ok (.new index, 3)) (hcl : po_cl ci C T N ty) (hN : fs.length = N) (hfs : ∀ j, j < N → defaultValue (ty j) = vp_V fs j)
    (h1 : Cond.classLink own index C ∈ po_ws) (h2 : Cond.instantiable C N ∈ po_ws) (h3 : Cond.initialized C ∈ po_ws) : po_N own cc nL ini pc (ps_new ci fs (pc + 3)) := by
  intro ls st h r hr
  simp only [ps_new] at hr
  split at hr
  · rename_i hgap
    simp only [pm_next, Option.some.injEq] at hr
    subst hr
    refine ⟨_, rfl, ⟨Nat.le_succ _, Nat.le_add_right _ _, Nat.le_refl _⟩, fun X p l e R s m args below meth c h0 Q hat hj hc hs k H locs la hL hR => ?_⟩
    refine po_exact hat hj hgap hR fun hz => ?_
    have hts := hat.2.2.2.2.1
    have hK := hat.2.2.2.2.2.2.1.1
    have hKn := hK.1 ci _ hcl.1
    obtain ⟨j1, j2, j3⟩ := hj
    have hc' : pm_cells h + 1 - pm_cells h0 ≤ R.cells := hc
    have hs' : pm_slots h + fs.length - pm_slots h0 ≤ R.slots := hs
    rw [hN] at hs'
    refine W.newcK hat.1 hat.2.1 hat.2.2.2.1 (hts _ h1) (hts _ h2) (hts _ h3) rfl hd (by omega) (by omega) hKn.2.1 hz fun H1 kC hkC e1 z1 o1 => ?_
    have hkk := k H1 locs la hL (hR.new (.inr (ci, fs)) fs.length hz ⟨_, hcl.1, (u_born ty hts hcl.2.1 hKn hkC e1 hcl.2.2.1).to hfs⟩ z1 o1)
    have q1 : pm_cells (pm_new h (.inr (ci, fs)) fs.length) - pm_cells h0 = pm_cells h - pm_cells h0 + 1 := by
      show pm_cells h + 1 - pm_cells h0 = _
      omega
    have q2 : pm_slots (pm_new h (.inr (ci, fs)) fs.length) - pm_slots h0 = pm_slots h - pm_slots h0 + N := by
      show pm_slots h + fs.length - pm_slots h0 = _
      omega
    rw [q1, q2] at hkk
    exact hkk
  · cases hr
theorem po_newa {kd : Nat} {at0 : ArrayType} (hd : decode cc pc = .ok (.newarray at0, 2)) (hkd : kd < 4) (hty : newarray.typeOf at0 = po_kd kd) (hw : Cond.arrayClass (newarray.typeOf at0) ∈ po_ws) (hcb : componentBytes (newarray.typeOf at0) ≤ 8) : po_N own cc nL ini pc (ps_newa kd (pc + 2)) := by
  intro ls st h r hr
  simp only [ps_newa] at hr
  split at hr
  · split at hr
    · rename_i n r0 hci
      obtain ⟨hgap, hn0, hn1⟩ := hci
      simp only [pm_next, Option.some.injEq] at hr
      subst hr
      refine ⟨_, rfl, ⟨Nat.le_succ _, Nat.le_add_right _ _, Nat.le_refl _⟩, fun X p l e R s m args below meth c h0 Q hat hj hc hs k H locs la hL hR => ?_⟩
      refine po_exact hat hj hgap hR fun hz => ?_
      have hts := hat.2.2.2.2.1
      have hK := hat.2.2.2.2.2.2.1.1
      obtain ⟨j1, j2, j3⟩ := hj
      have hn2 : n.toNatClampNeg ≤ 1000 := by
        show n.toInt.toNat ≤ 1000
        omega
      have hc' : pm_cells h + 1 - pm_cells h0 ≤ R.cells := hc
      have hs' : pm_slots h + n.toNatClampNeg - pm_slots h0 ≤ R.slots := hs
      refine va_newaK hat.1 hat.2.1 (hts _ hw) rfl hd rfl (po_neg hn0) rfl ?_ (by omega) (by omega) hz fun H1 cA e1 z1 o1 hAr hNm => ?_
      · have := Nat.mul_le_mul hn2 hcb
        omega
      rw [hty] at hNm
      have hcA := po_tyc hK kd (by omega) hNm
      subst hcA
      have hkk := k H1 locs la hL (hR.new (.inl (kd, n.toNatClampNeg, ps_zero kd)) n.toNatClampNeg hz (by
        show H1[pm_size h]? = some (vp_cell (X.2.1 kd) (n.toNatClampNeg, ps_zero kd))
        rw [e1, hty]
        rcases (show kd = 0 ∨ kd = 1 ∨ kd = 2 ∨ kd = 3 by omega) with rfl | rfl | rfl | rfl <;> rfl) z1 o1)
      have q1 : pm_cells (pm_new h (.inl (kd, n.toNatClampNeg, ps_zero kd)) n.toNatClampNeg) - pm_cells h0 = pm_cells h - pm_cells h0 + 1 := by
        show pm_cells h + 1 - pm_cells h0 = _
        omega
      have q2 : pm_slots (pm_new h (.inl (kd, n.toNatClampNeg, ps_zero kd)) n.toNatClampNeg) - pm_slots h0 = pm_slots h - pm_slots h0 + n.toNatClampNeg := by
        show pm_slots h + n.toNatClampNeg - pm_slots h0 = _
        omega
      rw [q1, q2] at hkk
      exact hkk
    · cases hr
  · cases hr
theorem po_anew {kd index : Nat} {C : String} (hd : decode cc pc = .ok (.anewarray index, 3)) (hkd : kd = 4 ∨ kd = 5) (hty : po_kd kd = .object C) (h1 : Cond.classLink own index C ∈ po_ws) (h2 : Cond.arrayOver (.object C) ∈ po_wt) : po_N own cc nL ini pc (ps_newa kd (pc + 3)) := by
  intro ls st h r hr
  simp only [ps_newa] at hr
  split at hr
  · split at hr
    · rename_i n r0 hci
      obtain ⟨hgap, hn0, hn1⟩ := hci
      simp only [pm_next, Option.some.injEq] at hr
      subst hr
      refine ⟨_, rfl, ⟨Nat.le_succ _, Nat.le_add_right _ _, Nat.le_refl _⟩, fun X p l e R s m args below meth c h0 Q hat hj hc hs k H locs la hL hR => ?_⟩
      refine po_exact hat hj hgap hR fun hz => ?_
      have hts := hat.2.2.2.2.1
      have hK := hat.2.2.2.2.2.2.1.1
      obtain ⟨j1, j2, j3⟩ := hj
      have hn2 : n.toNatClampNeg ≤ 1000 := by
        show n.toInt.toNat ≤ 1000
        omega
      have hc' : pm_cells h + 1 - pm_cells h0 ≤ R.cells := hc
      have hs' : pm_slots h + n.toNatClampNeg - pm_slots h0 ≤ R.slots := hs
      refine W.anew hat.1 hat.2.1 hat.2.2.2.1 (hts _ h1) (va_AO.use (hat.2.2.2.2.2.2.1.2.2.2.2.2.2.1 _ h2)) rfl hd rfl (po_neg hn0) (by omega) (by omega) (by omega) fun cA kA comp f1 f2 f3 f4 => ?_
      rw [← hty] at f1
      have hcA := po_tyc hK kd (by omega) f1
      subst hcA
      have hkk := k _ locs la hL (hR.new (H1 := H.push { cls := X.2.1 kd, slots := Array.replicate n.toNatClampNeg .null, vm := .none }) (.inl (kd, n.toNatClampNeg, ps_zero kd)) n.toNatClampNeg hz (by
        show (H.push _)[pm_size h]? = some (vp_cell (X.2.1 kd) (n.toNatClampNeg, ps_zero kd))
        rw [← hz, Array.getElem?_push_size, arrV_new]
        rcases hkd with rfl | rfl <;> rfl) (by rw [Array.size_push, hz]) (fun q hq => by rw [Array.getElem?_push, if_neg (by omega)]))
      have q1 : pm_cells (pm_new h (.inl (kd, n.toNatClampNeg, ps_zero kd)) n.toNatClampNeg) - pm_cells h0 = pm_cells h - pm_cells h0 + 1 := by
        show pm_cells h + 1 - pm_cells h0 = _
        omega
      have q2 : pm_slots (pm_new h (.inl (kd, n.toNatClampNeg, ps_zero kd)) n.toNatClampNeg) - pm_slots h0 = pm_slots h - pm_slots h0 + n.toNatClampNeg := by
        show pm_slots h + n.toNatClampNeg - pm_slots h0 = _
        omega
      rw [q1, q2] at hkk
      rw [← hz] at hkk
      exact hkk
    · cases hr
  · cases hr
theorem po_aald (hd : decode cc pc = .ok (.aaload, 1)) : po_N own cc nL ini pc (ps_aald (pc + 1)) := by
  intro ls st h r hr
  simp only [ps_aald] at hr
  split at hr
  · split at hr
    · rename_i i a r0 o9 kd n f hg
      split at hr
      · rename_i hci
        obtain ⟨hk4, hk7, hin⟩ := hci
        simp only [pm_next, Option.some.injEq] at hr
        subst hr
        refine ⟨_, rfl, po_J.rf, fun X p l e R s m args below meth c h0 Q hat hj hc hs k H locs la hL hR => ?_⟩
        obtain ⟨h1, h2, h3, ws, hP, hD, hS, hI⟩ := id hR
        obtain ⟨j, hi⟩ := hI _ _ hg
        have hin2 := po_vin hin
        have hlt : i.toNatClampNeg < n := Nat.not_le.mp fun q => hin2 (Or.inr q)
        have hrf : (po_kd kd).isReference = true := by
          rcases (show kd = 4 ∨ kd = 5 ∨ kd = 6 by omega) with rfl | rfl | rfl <;> rfl
        exact W.aald (v := va_rf (f i.toNatClampNeg)) (ty := po_kd kd) hat.1 hat.2.1 (hP j _ hi) ((hat.2.2.2.2.2.2.1.1.2 kd _ (po_tys_at X kd hk7)).1 n (fun j => va_rf (f j))) hrf (fun q => by cases q) (by show ¬ (i < 0 ∨ (arrV _ _ _).slots.size ≤ _); rw [arrV_size]; exact hin2) (by show (arrV _ _ _).slots[_]? = _; rw [arrV_read _ _ hlt]) rfl rfl hd (k H locs la hL hR)
      · cases hr
    · cases hr
  · cases hr
theorem po_aast (hd : decode cc pc = .ok (.aastore, 1)) : po_N own cc nL ini pc (ps_aast (pc + 1)) := by
  intro ls st h r hr
  simp only [ps_aast] at hr
  split at hr
  · split at hr
    · rename_i x i a r0 o9 o8 kd n f c1 fs hg hx
      split at hr
      · rename_i hci
        obtain ⟨rfl, rfl, hin⟩ := hci
        simp only [pm_next, Option.some.injEq] at hr
        subst hr
        refine ⟨_, rfl, ⟨Nat.le_refl _, Nat.le_refl _, Nat.le_refl _⟩, fun X p l e R s m args below meth c h0 Q hat hj hc hs k H locs la hL hR => ?_⟩
        obtain ⟨h1, h2, h3, ws, hP, hD, hS, hI⟩ := id hR
        obtain ⟨j, hi⟩ := hI _ _ hg
        obtain ⟨j2, hi2⟩ := hI _ _ hx
        exact va_astq (r := (RX7, TX7, 13)) hat.1 hat.2.1 hat.2.2.2.2.2.2.1.1 hP hD hS j 4 j2 7 hi (po_tys_at X 4 (by decide)) hi2 rfl (po_vin hin) hd
          (fun H1 locs1 hP1 hD1 hS1 => k H1 locs1 la hL (po_Rep.put (.inl (4, n, .inr (.inr (.inr (.inr (va_up f i.toNatClampNeg (some x))))))) h1 h2 h3 hI hi hP1 hD1 hS1))
      · cases hr
    · cases hr
  · cases hr
theorem po_slen (hd : decode cc pc = .ok (.arraylength, 1)) : po_N own cc nL ini pc (ps_slen (pc + 1)) := by
  intro ls st h r hr
  simp only [ps_slen] at hr
  split at hr
  · split at hr
    · rename_i a r0 hci
      subst hci
      simp only [pm_next, Option.some.injEq] at hr
      subst hr
      refine ⟨_, rfl, po_J.rf, fun X p l e R s m args below meth c h0 Q hat hj hc hs k H locs la hL hR => ?_⟩
      obtain ⟨h1, h2, h3, ws, hP, hD, hS, hI⟩ := id hR
      obtain ⟨-, ⟨scr, x1, x2, x3, x4, x5⟩, cb, -⟩ := hat.2.2.2.2.2.2.1
      have hx : H[X.2.2.2.1.1]? = some scr := (hS.2.1 _ cb (Nat.not_le.mpr cb)).trans x1
      rw [h1] at k ⊢
      exact W.alen hat.1 hat.2.1 hx x2 (by rw [x4]) rfl rfl hd (k H locs la hL hR)
    · cases hr
  · cases hr
theorem po_objInit {index : Nat} (hd : decode cc pc = .ok (.invokespecial index, 3)) (h1 : Cond.methodLink own index Lib.objectInit ∈ po_ws) (h2 : Cond.instanceMethod Lib.objectInit ∈ po_ws) (h3 : Cond.code Lib.objectInit ⟨#[0xb1]⟩ 1 none ∈ po_ws) : po_N own cc nL ini pc (fun ls st h => match st with
    | [.ref _] => pm_next (pc + 3) ls [] h
    | _ => none) := by
  intro ls st h r hr
  simp only at hr
  split at hr
  · simp only [pm_next, Option.some.injEq] at hr
    subst hr
    refine ⟨_, rfl, po_J.rf, fun X p l e R s m args below meth c h0 Q hat hj hc hs k H locs la hL hR => ?_⟩
    have hts := hat.2.2.2.2.1
    obtain ⟨-, -, -, -, -, -, -, -, -, -, -, hf, hlo, -⟩ := id hat
    exact W.objInit hat.1 hat.2.1 hat.2.2.2.1 (hts _ h1) (hts _ h2) (hts _ h3) rfl (by show la.size = _; rw [hL.2.2.1, hat.2.2.1]) rfl hd (by omega) (by show 2 * 0 + 0 + 12 ≤ _; omega) (k H locs la hL hR)
  · cases hr
/-- Math.max, min, abs -/
def ps_m2 (f : Int32 → Int32 → Int32) (nx : Nat) : pm_S := fun ls st h => match st with
  | .int y :: .int x :: r => if ps_low r = true then pm_next nx ls (.int (f x y) :: r) h else none
  | _ => none
def ps_m1 (f : Int32 → Int32) (nx : Nat) : pm_S := fun ls st h => match st with
  | .int x :: r => if ps_low r = true then pm_next nx ls (.int (f x) :: r) h else none
  | _ => none
theorem po_mmax {index : Nat} (hd : decode cc pc = .ok (.invokestatic index, 3)) (h1 : Cond.methodLink own index Lib.Math.max.name ∈ po_ws) (h2 : Cond.static Lib.Math.max.name ∈ po_ws) (h3 : Cond.initialized "java/lang/Math" ∈ po_ws) (h4 : Cond.code Lib.Math.max.name Lib.Math.max.code 2 (some .int) ∈ po_ws) : po_N own cc nL ini pc (ps_m2 (fun x y => if x < y then y else x) (pc + 3)) := by
  intro ls st h r hr
  simp only [ps_m2] at hr
  split at hr
  · split at hr
    · rename_i hlow
      simp only [pm_next, Option.some.injEq] at hr
      subst hr
      refine ⟨_, rfl, po_J.rf, fun X p l e R s m args below meth c h0 Q hat hj hc hs k H locs la hL hR => ?_⟩
      have hts := hat.2.2.2.2.1
      have := po_small hlow
      obtain ⟨-, -, -, -, -, -, -, -, -, -, -, hf, hlo, -⟩ := id hat
      exact va_mmax hat.1 hat.2.1 (by rw [hL.2.2.1, hat.2.2.1]) hat.2.2.2.1 (hts _ h1) (hts _ h2) (hts _ h3) (hts _ h4) (by omega) (by omega) hc hs hd (k H locs la hL hR)
    · cases hr
  · cases hr
theorem po_mmin {index : Nat} (hd : decode cc pc = .ok (.invokestatic index, 3)) (h1 : Cond.methodLink own index Lib.Math.min.name ∈ po_ws) (h2 : Cond.static Lib.Math.min.name ∈ po_ws) (h3 : Cond.initialized "java/lang/Math" ∈ po_ws) (h4 : Cond.code Lib.Math.min.name Lib.Math.min.code 2 (some .int) ∈ po_ws) : po_N own cc nL ini pc (ps_m2 (fun x y => if y < x then y else x) (pc + 3)) := by
  intro ls st h r hr
  simp only [ps_m2] at hr
  split at hr
  · split at hr
    · rename_i hlow
      simp only [pm_next, Option.some.injEq] at hr
      subst hr
      refine ⟨_, rfl, po_J.rf, fun X p l e R s m args below meth c h0 Q hat hj hc hs k H locs la hL hR => ?_⟩
      have hts := hat.2.2.2.2.1
      have := po_small hlow
      obtain ⟨-, -, -, -, -, -, -, -, -, -, -, hf, hlo, -⟩ := id hat
      exact va_mmin hat.1 hat.2.1 (by rw [hL.2.2.1, hat.2.2.1]) hat.2.2.2.1 (hts _ h1) (hts _ h2) (hts _ h3) (hts _ h4) (by omega) (by omega) hc hs hd (k H locs la hL hR)
    · cases hr
  · cases hr
theorem po_mabs {index : Nat} (hd : decode cc pc = .ok (.invokestatic index, 3)) (h1 : Cond.methodLink own index Lib.Math.abs.name ∈ po_ws) (h2 : Cond.static Lib.Math.abs.name ∈ po_ws) (h3 : Cond.initialized "java/lang/Math" ∈ po_ws) (h4 : Cond.code Lib.Math.abs.name Lib.Math.abs.code 1 (some .int) ∈ po_ws) : po_N own cc nL ini pc (ps_m1 (fun x => if 0 ≤ x then x else 0 - x) (pc + 3)) := by
  intro ls st h r hr
  simp only [ps_m1] at hr
  split at hr
  · split at hr
    · rename_i hlow
      simp only [pm_next, Option.some.injEq] at hr
      subst hr
      refine ⟨_, rfl, po_J.rf, fun X p l e R s m args below meth c h0 Q hat hj hc hs k H locs la hL hR => ?_⟩
      have hts := hat.2.2.2.2.1
      have := po_small hlow
      obtain ⟨-, -, -, -, -, -, -, -, -, -, -, hf, hlo, -⟩ := id hat
      exact va_mabs hat.1 hat.2.1 (by rw [hL.2.2.1, hat.2.2.1]) hat.2.2.2.1 (hts _ h1) (hts _ h2) (hts _ h3) (hts _ h4) (by omega) (by omega) hc hs hd (k H locs la hL hR)
    · cases hr
  · cases hr
theorem po_copy {index : Nat} (hd : decode cc pc = .ok (.invokestatic index, 3)) (h1 : Cond.methodLink own index arraycopyName ∈ po_ws) (h2 : Cond.native arraycopyName ∈ po_ws) (h3 : Cond.static arraycopyName ∈ po_ws) (h4 : Cond.initialized "java/lang/System" ∈ po_ws) : po_N own cc nL ini pc (ps_copy (pc + 3)) := by
  intro ls st h r hr
  simp only [ps_copy] at hr
  split at hr
  · split at hr
    · rename_i n dp b sp a r0 o9 o8 kd n0 f kd1 n1 g ha hb
      split at hr
      · rename_i hci
        obtain ⟨rfl, rfl, hn, hdp, hsp, hb1, hb2, hlow⟩ := hci
        simp only [pm_next, Option.some.injEq] at hr
        subst hr
        refine ⟨_, rfl, ⟨Nat.le_refl _, Nat.le_refl _, Nat.le_refl _⟩, fun X p l e R s m args below meth c h0 Q hat hj hc hs k H locs la hL hR => ?_⟩
        obtain ⟨h1', h2', h3', ws, hP, hD, hS, hI⟩ := id hR
        obtain ⟨j, hi⟩ := hI _ _ ha
        obtain ⟨j2, hi2⟩ := hI _ _ hb
        have hts := hat.2.2.2.2.1
        have := po_small hlow
        obtain ⟨-, -, -, -, -, -, -, -, -, -, -, hf, hlo, -⟩ := id hat
        exact va_copyi hat.1 hat.2.1 (by rw [hL.2.2.1, hat.2.2.1]) hat.2.2.2.1 (hts _ h1) (hts _ h2) (hts _ h3) (hts _ h4) hat.2.2.2.2.2.2.1.1 hP hD hS j j2 0 0 hi hi2 (po_tys_at X 0 (by decide)) (po_tys_at X 0 (by decide)) rfl (po_neg hsp) (po_neg hdp) (po_neg hn) hb1 hb2 (fun i _ => rfl) (by omega)
          (by have : nativeFrameWords "java/lang/System" "arraycopy" 5 + 11 ≤ 100 := by decide +kernel
              omega) hd
          (fun H1 locs1 hP1 hD1 hS1 => k H1 locs1 la hL (po_Rep.put (.inl (0, n1, .inl (va_cpy f g sp.toNatClampNeg dp.toNatClampNeg n.toNatClampNeg))) h1' h2' h3' hI hi2 hP1 hD1 hS1))
      · cases hr
    · cases hr
  · cases hr
end PK
