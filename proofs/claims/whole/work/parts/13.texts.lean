/-! TEXTS: the constants, their bytes, an array of them, their methods -/
section PT
variable {own : String} {cc : ByteArray} {nL pc : Nat} {ini : Bool}
/-- seen from the heap of the method's start -/
theorem po_seen {X : po_X} {p : Program} {l : Launch} {e : Env} {R : Room} {s : State} {m : MethodId} {args : Array Value} {below : List Frame} {meth : Method} {c : Code} {h : pm_H} {H : Heap} {locs : List Loc} {Q : State → Prop} {g : JFrame} {k n : Nat}
    (hS0 : va_S (po_A X) X.2.2.1 s.heap []) (hR : po_Rep X h H locs)
    (kk : va_S (po_A X) s.heap H locs → W p l e R s m args below meth c H locs k n Q g) : W p l e R s m args below meth c H locs k n Q g := by
  intro T hT Y
  have hsz : s.heap.size ≤ H.size := by
    have := Y.same.2.1
    rw [← hT]
    exact this
  obtain ⟨-, -, -, ws, -, -, hS, -⟩ := hR
  exact kk ⟨hsz, fun q q1 q2 => by
    have hb : q < X.2.2.1.size := Nat.not_le.mp q2
    rw [hS.2.1 q hb q2, hS0.2.1 q hb q2], hS.2.2⟩ T hT Y
theorem po_ldc {index k : Nat} (hd : decode cc pc = .ok (.ldc index, 2)) (hk : (own, index, k) ∈ po_tcs) : po_N own cc nL ini pc (ps_ldc k (pc + 2)) := by
  intro ls st h r hr
  simp only [ps_ldc, pm_next, Option.some.injEq] at hr
  subst hr
  refine ⟨_, rfl, po_J.rf, fun X p l e R s m args below meth c h0 Q hat hj hc hs k H locs la hL hR => ?_⟩
  obtain ⟨adK, adV, -, t2, -⟩ := hat.2.2.2.2.2.2.1.2.2.2.2.2.1
  have e1 := hR.1
  rw [e1] at k
  exact va_ldcS hat.1 hat.2.1 hat.2.2.2.1 (t2 _ hk) hd (k H locs la hL hR)
theorem po_ldcI {index : Nat} {v : Int32} (hd : decode cc pc = .ok (.ldc_w index, 3)) (hw : Cond.constant own index v ∈ po_ws) : po_N own cc nL ini pc (ps_push v (pc + 3)) := by
  intro ls st h r hr
  simp only [ps_push, pm_next, Option.some.injEq] at hr
  subst hr
  exact ⟨_, rfl, po_J.rf, fun X p l e R s m args below meth c h0 Q hat hj hc hs k H locs la hL hR => lv_ldcw hat.1 hat.2.1 hat.2.2.2.1 (hat.2.2.2.2.1 _ hw) hd (k H locs la hL hR)⟩
theorem po_compact {index : Nat} (hd : decode cc pc = .ok (.getstatic index, 3)) (hw : Cond.fieldLink own index "java/lang/String" "COMPACT_STRINGS" "Z" ∈ po_ws) : po_N own cc nL ini pc (ps_push 1 (pc + 3)) := by
  intro ls st h r hr
  simp only [ps_push, pm_next, Option.some.injEq] at hr
  subst hr
  refine ⟨_, rfl, po_J.rf, fun X p l e R s m args below meth c h0 Q hat hj hc hs k H locs la hL hR => ?_⟩
  obtain ⟨adK, adV, -, -, -, -, t5, -⟩ := hat.2.2.2.2.2.2.1.2.2.2.2.2.1
  have hS0 := hat.2.2.2.2.2.2.2.1
  exact po_seen hS0 hR fun hS1 => va_gets hat.1 hat.2.1 (t5.kept (fun a h1 h2 => hS0.2.1 a h1 h2)) hS1 hat.2.2.2.1 (hat.2.2.2.2.1 _ hw) (fun _ z => z) hd (k H locs la hL hR)
theorem po_fmt {index : Nat} (hd : decode cc pc = .ok (.getstatic index, 3)) (hw : Cond.fieldLink own index "jdk/internal/util/Preconditions" "SIOOBE_FORMATTER" "Ljava/util/function/BiFunction;" ∈ po_ws) : po_N own cc nL ini pc (ps_fmt (pc + 3)) := by
  intro ls st h r hr
  simp only [ps_fmt, pm_next, Option.some.injEq] at hr
  subst hr
  refine ⟨_, rfl, po_J.rf, fun X p l e R s m args below meth c h0 Q hat hj hc hs k H locs la hL hR => ?_⟩
  obtain ⟨adK, adV, -, -, -, -, -, t6⟩ := hat.2.2.2.2.2.2.1.2.2.2.2.2.1
  have hS0 := hat.2.2.2.2.2.2.2.1
  have e1 := hR.1
  rw [e1] at k
  exact po_seen hS0 hR fun hS1 => va_gets hat.1 hat.2.1 (t6.kept (fun a h1 h2 => hS0.2.1 a h1 h2)) hS1 hat.2.2.2.1 (hat.2.2.2.2.1 _ hw) (fun _ z => z) hd (k H locs la hL hR)
theorem po_tval {index : Nat} (hd : decode cc pc = .ok (.getfield index, 3)) (hw : Cond.fieldLink own index "java/lang/String" "value" "[B" ∈ po_ws) : po_N own cc nL ini pc (ps_tval (pc + 3)) := by
  intro ls st h r hr
  simp only [ps_tval] at hr
  split at hr
  · split at hr
    · rename_i a r0 o9 q hq
      simp only [pm_next, Option.some.injEq] at hr
      subst hr
      refine ⟨_, rfl, po_J.rf, fun X p l e R s m args below meth c h0 Q hat hj hc hs k H locs la hL hR => ?_⟩
      obtain ⟨adK, adV, t1, -, t3, -⟩ := hat.2.2.2.2.2.2.1.2.2.2.2.2.1
      have hS0 := hat.2.2.2.2.2.2.2.1
      rw [hR.1] at hq
      obtain ⟨i, hi, rfl, e2⟩ := t3 _ _ hq
      rw [e2] at k
      exact po_seen hS0 hR fun hS1 => vk_getf hat.1 hat.2.1 ((t1.1 i hi).2.2.1.kept (fun a h1 h2 => hS0.2.1 a h1 h2)) hS1 hat.2.2.2.1 (hat.2.2.2.2.1 _ hw) (fun _ z => z) hd (k H locs la hL hR)
    · cases hr
  · cases hr
theorem po_tcod {index : Nat} (hd : decode cc pc = .ok (.getfield index, 3)) (hw : Cond.fieldLink own index "java/lang/String" "coder" "B" ∈ po_ws) : po_N own cc nL ini pc (ps_tcod (pc + 3)) := by
  intro ls st h r hr
  simp only [ps_tcod] at hr
  split at hr
  · split at hr
    · rename_i a r0 o9 q hq
      simp only [pm_next, Option.some.injEq] at hr
      subst hr
      refine ⟨_, rfl, po_J.rf, fun X p l e R s m args below meth c h0 Q hat hj hc hs k H locs la hL hR => ?_⟩
      obtain ⟨adK, adV, t1, -, t3, -⟩ := hat.2.2.2.2.2.2.1.2.2.2.2.2.1
      have hS0 := hat.2.2.2.2.2.2.2.1
      rw [hR.1] at hq
      obtain ⟨i, hi, rfl, e2⟩ := t3 _ _ hq
      exact po_seen hS0 hR fun hS1 => vk_getf hat.1 hat.2.1 ((t1.1 i hi).2.1.kept (fun a h1 h2 => hS0.2.1 a h1 h2)) hS1 hat.2.2.2.1 (hat.2.2.2.2.1 _ hw) (fun _ z => z) hd (k H locs la hL hR)
    · cases hr
  · cases hr
theorem po_codes : ∀ i, i < 10 → (po_code i).length = po_len.getD i 0 ∧ ∀ j, j < po_len.getD i 0 → (po_byt.getD i []).getD j 0 = Int32.ofNat ((po_code i).getD j 0) := by decide +kernel
theorem po_blen (hd : decode cc pc = .ok (.arraylength, 1)) : po_N own cc nL ini pc (ps_blen (pc + 1)) := by
  intro ls st h r hr
  simp only [ps_blen] at hr
  split at hr
  · split at hr
    · rename_i a r0 o9 q hq
      simp only [pm_next, Option.some.injEq] at hr
      subst hr
      refine ⟨_, rfl, po_J.rf, fun X p l e R s m args below meth c h0 Q hat hj hc hs k H locs la hL hR => ?_⟩
      obtain ⟨adK, adV, t1, -, -, t4, -⟩ := hat.2.2.2.2.2.2.1.2.2.2.2.2.1
      have hS0 := hat.2.2.2.2.2.2.2.1
      rw [hR.1] at hq
      obtain ⟨i, hi, rfl, rfl⟩ := t4 _ _ hq
      exact po_seen hS0 hR fun hS1 => va_tlen hat.1 hat.2.1 ((t1.1 i hi).2.2.2.kept (fun a h1 h2 => hS0.2.1 a h1 h2)) hS1 (by rw [(po_codes i hi).1]) hd (k H locs la hL hR)
    · cases hr
  · cases hr
theorem po_bald (hd : decode cc pc = .ok (.baload, 1)) : po_N own cc nL ini pc (ps_bald (pc + 1)) := by
  intro ls st h r hr
  simp only [ps_bald] at hr
  split at hr
  · split at hr
    · rename_i j a r0 o9 q hq
      split at hr
      · rename_i hin
        simp only [pm_next, Option.some.injEq] at hr
        subst hr
        refine ⟨_, rfl, po_J.rf, fun X p l e R s m args below meth c h0 Q hat hj hc hs k H locs la hL hR => ?_⟩
        obtain ⟨adK, adV, t1, -, -, t4, -⟩ := hat.2.2.2.2.2.2.1.2.2.2.2.2.1
        have hS0 := hat.2.2.2.2.2.2.2.1
        rw [hR.1] at hq
        obtain ⟨i, hi, rfl, rfl⟩ := t4 _ _ hq
        obtain ⟨c1, c2⟩ := po_codes i hi
        rw [c1] at hin
        have hin2 := po_vin hin
        have hlt : j.toNatClampNeg < po_len.getD i 0 := Nat.not_le.mp fun q => hin2 (Or.inr q)
        exact po_seen hS0 hR fun hS1 => va_tb hat.1 hat.2.1 ((t1.1 i hi).2.2.2.kept (fun a h1 h2 => hS0.2.1 a h1 h2)) hS1 hin2 (by rw [c2 _ hlt]) hd (k H locs la hL hR)
      · cases hr
    · cases hr
  · cases hr
theorem po_self (vm : Vm) (a : ClassId) : vm.assignable a a = true := by
  unfold Vm.assignable Vm.assignableAux
  simp
theorem po_sast (hd : decode cc pc = .ok (.aastore, 1)) : po_N own cc nL ini pc (ps_sast (pc + 1)) := by
  intro ls st h r hr
  simp only [ps_sast] at hr
  split at hr
  · split at hr
    · rename_i x i a r0 o9 o8 kd n f q hg hx
      split at hr
      · rename_i hci
        obtain ⟨rfl, hin⟩ := hci
        simp only [pm_next, Option.some.injEq] at hr
        subst hr
        refine ⟨_, rfl, ⟨Nat.le_refl _, Nat.le_refl _, Nat.le_refl _⟩, fun X p l e R s m args below meth c h0 Q hat hj hc hs k H locs la hL hR => ?_⟩
        obtain ⟨h1, h2, h3, ws, hP, hD, hS, hI⟩ := id hR
        obtain ⟨j, hi⟩ := hI _ _ hg
        obtain ⟨adK, adV, t1, -, t3, -⟩ := hat.2.2.2.2.2.2.1.2.2.2.2.2.1
        have hK := hat.2.2.2.2.2.2.1.1
        rw [h1] at hx
        obtain ⟨i5, hi5, rfl, -⟩ := t3 _ _ hx
        have hin2 := po_vin hin
        have hlt : i.toNatClampNeg < n := Nat.not_le.mp fun q => hin2 (Or.inr q)
        have hn0 : ¬ i < 0 := fun q => hin2 (Or.inl q)
        obtain ⟨cv, v1, v2, v3, v4⟩ := (t1.1 i5 hi5).1
        have hv : H[adK i5]? = some cv := (hS.2.1 _ (Nat.not_le.mp v4) v4).trans v1
        obtain ⟨kA, comp, k1, k2, k3, -⟩ := (hK.2 5 _ (po_tys_at X 5 (by decide))).2
        have hcomp : comp = cv.cls := Option.some.inj (k3.symm.trans v3)
        subst hcomp
        obtain ⟨kC, hkC, -⟩ := Vm.findClass_spec v3
        refine W.aast hat.1 hat.2.1 (hP j _ hi) (fun q h => by cases h) (fun h => by cases h) k1 k2 rfl hkC ⟨hn0, by show _ < (arrV _ _ _).slots.size; rw [arrV_size]; exact hlt⟩ hv (fun q h => by rw [h] at v2; cases v2) hkC (po_self _ _) rfl rfl hd fun H1 e z oq => ?_
        refine k H1 _ la hL (po_Rep.put (.inl (5, n, .inr (.inr (.inr (.inr (va_up f i.toNatClampNeg (some (adK i5)))))))) h1 h2 h3 hI hi (hP.set hD hi ?_ oq) (hD.set hi) (hS.put z oq (hD.2 j _ hi)))
        show H1[a]? = some (vp_cell _ _)
        rw [e]
        rw [vp_cell_q, vp_cell_q, arrV_store]
        congr 2
        funext q
        by_cases hq : q = i.toNatClampNeg
        · subst hq
          simp [updV, va_up, va_rf]
        · simp [updV, va_up, hq]
      · cases hr
    · cases hr
  · cases hr
variable {md : Nat → po_M} {tm : Nat} {tbl : List (Nat × Nat × Nat × Nat)}
theorem po_callT {k index : Nat} {hd : List Value → String → Option (Nat × List Value)} (hdc : decode cc pc = .ok (.invokevirtual index, 3))
    (hy : (md tm).1.cls = "java/lang/String") (hnt : (md tm).2.2.2.2 = []) (h1 : Cond.methodLink own index (md tm).1 ∈ po_ws) (h2 : Cond.instanceMethod (md tm).1 ∈ po_ws) (h3 : Cond.selects "java/lang/String" (md tm).1 (md tm).1 ∈ po_ws) (h4 : Cond.initialized "java/lang/String" ∈ po_ws) (h5 : Cond.code (md tm).1 (md tm).2.1 (md tm).2.2.1 (md tm).2.2.2.1 ∈ po_ws)
    (hmh : (md tm).1.cls ≠ "java/lang/invoke/MethodHandle" ∧ (md tm).1.cls ≠ "java/lang/invoke/VarHandle") (hk : (parseMethodDescriptor (md tm).1.desc).map (fun d => d.parameters.length) = some k) (hm : k + 1 ≤ (md tm).2.2.1) (hm2 : (md tm).2.2.1 ≤ 80) (hH : ∀ ls, po_Hd own cc nL ini tbl pc ls (hd ls)) :
    po_C md own cc nL ini tbl pc (ps_callT tm k (md tm).2.2.1 (pc + 3) hd) := by
  intro ls st h r hr
  simp only [ps_callT] at hr
  split at hr
  · split at hr
    · rename_i b r0 hst o9 q9 hg
      split at hr
      · rename_i hci
        obtain ⟨hall, hlow⟩ := hci
        cases hr
        have hlen : (st.take k).length = k := by
          have : (st.drop k).length = r0.length + 1 := by rw [hst]; rfl
          rw [List.length_drop] at this
          rw [List.length_take]
          omega
        refine ⟨tm, .ref b :: (st.take k).reverse, r0, hd ls, rfl, by rw [List.length_cons, List.length_reverse, hlen]; exact hm, by simpa [ps_okA] using hall, hH ls, ?_⟩
        intro X p l e R s m args below meth c h0 d o h' hat hj hj' hc hs hf hlo hM H locs la hL hR hz
        have hts := hat.2.2.2.2.1
        have hw := po_hw hnt
        obtain ⟨r1, r2, r3, ws, hP, hD, hS, hI⟩ := id hR
        have hG : GoodIn po_ws (wsV own index "java/lang/String" (md tm).1 (po_w (md tm))) := by
          rw [hw]
          intro w hw'
          unfold wsV at hw'
          rcases List.mem_append.mp hw' with q | q
          · simp only [List.mem_cons, List.not_mem_nil, or_false] at q
            rcases q with rfl | rfl | rfl | rfl
            · exact po_gw _ h1
            · exact po_gw _ h2
            · exact po_gw _ h3
            · exact po_gw _ h4
          · exact po_gc h5 w q
        have hC0 := hat.2.2.2.2.2.2.1
        obtain ⟨adK, adV, t1, -, t3, -⟩ := hC0.2.2.2.2.2.1
        rw [r1] at hg
        obtain ⟨i5, hi5, rfl, -⟩ := t3 _ _ hg
        obtain ⟨cv, v1, v2, v3, v4⟩ := (t1.1 i5 hi5).1
        have hv : H[adK i5]? = some cv := (hS.2.1 _ (Nat.not_le.mp v4) v4).trans v1
        obtain ⟨j1, j2, j3⟩ := hj
        obtain ⟨i1, i2, i3⟩ := hj'
        exact vx_runV (As := (st.take k).reverse) (rest := r0) (n := k) ⟨hat.1, hat.2.1, hat.2.2.1, hat.2.2.2.1, hts⟩ hM (cwV k hts hG hw rfl rfl ⟨hy, hmh.1, hmh.2, hk⟩ ⟨by show d + 6 + 1 ≤ _; omega, by show 8 + (_ + 11) + (100 * d + 200) ≤ _; omega⟩)
          ⟨po_Pc.blind, ⟨cv, hv, v2, v3⟩, po_pre hC0 hR hz⟩ rfl (by rw [List.length_reverse]; exact hlen) hL.2.2.1 (by
            show st = (st.take k).reverse.reverse ++ .ref (adK i5) :: r0
            rw [List.reverse_reverse, ← hst, List.take_append_drop]) (by show 2 * 0 + _ ≤ 8; have := po_small hlow; omega) hdc ⟨by omega, by omega⟩
      · cases hr
    · cases hr
  · cases hr
end PT
