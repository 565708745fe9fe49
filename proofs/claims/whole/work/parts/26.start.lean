/-! What holds where the law begins -/
theorem wAll_sub : ∀ w ∈ wAll, w ∈ lw_tbl := fun w h => (List.mem_filter.mp h).1
theorem lw_arrI {s : State} {args : Array Value} (h : (Cond.arrayClass .int).before args s = true) : ∃ cA, ArrOfT s cA .int ∧ va_RA s cA .int := by
  obtain ⟨cA, k, comp, h1, h2, h3⟩ := Cond.arrayClass_spec h
  exact ⟨cA, fun n z => ⟨fun k h => (by cases h), k, h2, comp, h3⟩, h1⟩
theorem lw_arrZ {s : State} {args : Array Value} (h : (Cond.arrayClass .boolean).before args s = true) : ∃ cA, ArrOfT s cA .boolean ∧ va_RA s cA .boolean := by
  obtain ⟨cA, k, comp, h1, h2, h3⟩ := Cond.arrayClass_spec h
  exact ⟨cA, fun n z => ⟨fun k h => (by cases h), k, h2, comp, h3⟩, h1⟩
theorem lw_arrL {s : State} {args : Array Value} (h : (Cond.arrayClass .long).before args s = true) : ∃ cA, ArrOfT s cA .long ∧ va_RA s cA .long := by
  obtain ⟨cA, k, comp, h1, h2, h3⟩ := Cond.arrayClass_spec h
  exact ⟨cA, fun n z => ⟨fun k h => (by cases h), k, h2, comp, h3⟩, h1⟩
theorem lw_arrO {s : State} {args : Array Value} {C : String} (h : (Cond.arrayOver (.object C)).before args s = true) : ∃ cA, ArrOfT s cA (.object C) ∧ va_RA s cA (.object C) := by
  obtain ⟨comp, cA, k, h1, h2, h3, h4, h5⟩ := Cond.arrayOver_spec h
  exact ⟨cA, fun n z => ⟨fun k h => (by cases h), k, h3, comp, h4⟩, k, comp, h3, h4, h1, h5⟩
theorem lw_K {s : State} {args : Array Value} (hts : ∀ w ∈ lw_tbl, w.before args s = true) : ∃ (D : va_G) (cy : Nat → ClassId), va_K D vwCl (gT cy) s := by
  obtain ⟨c0, i0, k0⟩ := u_known (ws := lw_tbl) (C := RX0) (T := TX0) (N := 4) (n := 4) hts (fun w hw => wAll_sub w (ku_X0 w hw)) (hts _ (wAll_sub _ (kAll 44 (by decide +kernel) (by decide +kernel))))
  obtain ⟨c1, i1, k1⟩ := u_known (ws := lw_tbl) (C := RX1) (T := TX1) (N := 4) (n := 4) hts (fun w hw => wAll_sub w (ku_X1 w hw)) (hts _ (wAll_sub _ (kAll 87 (by decide +kernel) (by decide +kernel))))
  obtain ⟨c2, i2, k2⟩ := u_known (ws := lw_tbl) (C := RX2) (T := TX2) (N := 3) (n := 3) hts (fun w hw => wAll_sub w (ku_X2 w hw)) (hts _ (wAll_sub _ (kAll 68 (by decide +kernel) (by decide +kernel))))
  obtain ⟨c3, i3, k3⟩ := u_known (ws := lw_tbl) (C := RX3) (T := TX3) (N := 10) (n := 10) hts (fun w hw => wAll_sub w (ku_X3 w hw)) (hts _ (wAll_sub _ (kAll 36 (by decide +kernel) (by decide +kernel))))
  obtain ⟨c4, i4, k4⟩ := u_known (ws := lw_tbl) (C := RX4) (T := TX4) (N := 5) (n := 5) hts (fun w hw => wAll_sub w (ku_X4 w hw)) (hts _ (wAll_sub _ (kAll 557 (by decide +kernel) (by decide +kernel))))
  obtain ⟨c5, i5, k5⟩ := u_known (ws := lw_tbl) (C := RX5) (T := TX5) (N := 14) (n := 14) hts (fun w hw => wAll_sub w (ku_X5 w hw)) (hts _ (wAll_sub _ (kAll 551 (by decide +kernel) (by decide +kernel))))
  obtain ⟨y0, g0, r0⟩ := lw_arrI (hts (.arrayClass .int) (List.mem_of_getElem? (i := 64) (by decide +kernel)))
  obtain ⟨y1, g1, r1⟩ := lw_arrZ (hts (.arrayClass .boolean) (List.mem_of_getElem? (i := 65) (by decide +kernel)))
  obtain ⟨y2, g2, r2⟩ := lw_arrO (hts (.arrayOver (.object "StreetOrgans$Tune")) (List.mem_of_getElem? (i := 67) (by decide +kernel)))
  obtain ⟨y3, g3, r3⟩ := lw_arrO (hts (.arrayOver (.object "StreetOrgans$Street")) (List.mem_of_getElem? (i := 86) (by decide +kernel)))
  obtain ⟨y4, g4, r4⟩ := lw_arrL (hts (.arrayClass .long) (List.mem_of_getElem? (i := 811) (by decide +kernel)))
  refine ⟨(fun c => match c with | 0 => c0 | 1 => c1 | 2 => c2 | 3 => c3 | 4 => c4 | _ => c5, fun c => match c with | 0 => i0 | 1 => i1 | 2 => i2 | 3 => i3 | 4 => i4 | _ => i5), fun k => match k with | 0 => y0 | 1 => y1 | 2 => y2 | 3 => y3 | _ => y4, fun c q hq => ?_, fun k q hk => ?_⟩
  · match c, hq with
    | 0, hq => cases hq; exact k0
    | 1, hq => cases hq; exact k1
    | 2, hq => cases hq; exact k2
    | 3, hq => cases hq; exact k3
    | 4, hq => cases hq; exact k4
    | 5, hq => cases hq; exact k5
  · match k, hk with
    | 0, hk => cases hk; exact ⟨g0, r0⟩
    | 1, hk => cases hk; exact ⟨g1, r1⟩
    | 2, hk => cases hk; exact ⟨g2, r2⟩
    | 3, hk => cases hk; exact ⟨g3, r3⟩
    | 4, hk => cases hk; exact ⟨g4, r4⟩
theorem lw_AO {s : State} {args : Array Value} (hts : ∀ w ∈ lw_tbl, w.before args s = true) : ∀ C9 ∈ [RX2, RX1], va_AO C9 s := by
  intro C9 h
  rcases List.mem_cons.mp h with rfl | h
  · exact va_AO.of (hts (.arrayOver (.object "StreetOrgans$Tune")) (List.mem_of_getElem? (i := 67) (by decide +kernel)))
  · obtain rfl := List.mem_singleton.mp h
    exact va_AO.of (hts (.arrayOver (.object "StreetOrgans$Street")) (List.mem_of_getElem? (i := 86) (by decide +kernel)))
theorem gNsw_tbl : gNsw.all (fun w => lw_tbl.contains w) = true := by decide +kernel
theorem lw_nst {s : State} {args : Array Value} (hts : ∀ w ∈ lw_tbl, w.before args s = true) : gNst s := fun w hw => va_Nw.of (gNsw_ot w hw) (hts w (List.contains_iff_mem.mp (List.all_eq_true.mp gNsw_tbl w hw)))
theorem gStr_tbl : gStr.all (fun q => lw_tbl.contains (.stringRef q.1 q.2.1 q.2.2)) = true := by decide +kernel
theorem gStr_giv : gStr.all (fun q => (flatC (Jvm.Cond.and given_1 narrow_1)).contains (.exactly (.string q.1 q.2.1) "java/lang/String")) = true := by decide +kernel
theorem lw_env {s : State} {args : Array Value} (hts : ∀ w ∈ lw_tbl, w.before args s = true) (hgv : (Jvm.Cond.and given_1 narrow_1).before args s = true) : gEnv s (fun q => s.heap.size ≤ q) := by
  have hs := flat_of_before _ hgv
  refine ⟨vx_Zqof (hts (.laysStatic Bundle.tN "UNASSIGNED_STACK" Bundle.steD) (List.mem_of_getElem? (i := 274) (by decide +kernel))) (hts (.initialized "java/lang/Throwable") (List.mem_of_getElem? (i := 26) (by decide +kernel))) (hs (.isRef (.static Bundle.tN "UNASSIGNED_STACK" Bundle.steD)) (by decide +kernel)) (fun a h => Nat.not_le.mpr h), vx_Zqof (hts (.laysStatic Bundle.tN "SUPPRESSED_SENTINEL" Bundle.listD) (List.mem_of_getElem? (i := 276) (by decide +kernel))) (hts (.initialized "java/lang/Throwable") (List.mem_of_getElem? (i := 26) (by decide +kernel))) (hs (.isRef (.static Bundle.tN "SUPPRESSED_SENTINEL" Bundle.listD)) (by decide +kernel)) (fun a h => Nat.not_le.mpr h), fun q hq => ?_⟩
  have h1 := hts _ (List.contains_iff_mem.mp (List.all_eq_true.mp gStr_tbl q hq))
  have h2 := hs _ (List.contains_iff_mem.mp (List.all_eq_true.mp gStr_giv q hq))
  obtain ⟨a, _, _, _, h3, _⟩ := Cond.exactly_spec h2
  exact ⟨a, vk_R.of h1 h3⟩
theorem gNc_giv : gNcs.all (fun q => (flatC (Jvm.Cond.and given_1 narrow_1)).contains (.not (.castable q.1 q.2))) = true := by decide +kernel
theorem lw_nc {s : State} {args : Array Value} (hgv : (Jvm.Cond.and given_1 narrow_1).before args s = true) : gNc s := fun q hq => va_Nc.of (flat_of_before _ hgv _ (List.contains_iff_mem.mp (List.all_eq_true.mp gNc_giv q hq)))
theorem lw_st {l : Launch} (h : l.flags = flags0) : l.stackTraces = false := by
  unfold Launch.stackTraces
  rw [h]
  decide +kernel
