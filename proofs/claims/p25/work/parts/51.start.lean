/-! What holds where the law begins -/
theorem wAll_sub : ∀ w ∈ wAll, w ∈ lw_tbl := fun w h => (List.mem_filter.mp h).1
theorem lw_arrI {s : State} {args : Array Value} (h : (Cond.arrayClass .int).before args s = true) : ∃ cA, ArrOfT s cA .int ∧ va_RA s cA .int := by
  obtain ⟨cA, k, comp, h1, h2, h3⟩ := Cond.arrayClass_spec h
  exact ⟨cA, fun n z => ⟨fun k h => (by cases h), k, h2, comp, h3⟩, h1⟩
theorem lw_arrZ {s : State} {args : Array Value} (h : (Cond.arrayClass .boolean).before args s = true) : ∃ cA, ArrOfT s cA .boolean ∧ va_RA s cA .boolean := by
  obtain ⟨cA, k, comp, h1, h2, h3⟩ := Cond.arrayClass_spec h
  exact ⟨cA, fun n z => ⟨fun k h => (by cases h), k, h2, comp, h3⟩, h1⟩
theorem lw_arrA {s : State} (h : zAO s) : ∃ cA, ArrOfT s cA (.array .int) ∧ va_RA s cA (.array .int) := by
  obtain ⟨comp, cA, k, h1, h2, h3, h4, h5⟩ := arrayOverA_spec h
  exact ⟨cA, fun n z => ⟨fun k h => (by cases h), k, h3, comp, h4⟩, h5⟩
theorem lw_zAO {s : State} {args : Array Value} (hts : ∀ w ∈ lw_tbl, w.before args s = true) : zAO s := hts (.arrayOver (.array .int)) (List.mem_of_getElem? (i := 488) (by decide +kernel))
theorem lw_arrO {s : State} {args : Array Value} {C : String} (h : (Cond.arrayOver (.object C)).before args s = true) : ∃ cA, ArrOfT s cA (.object C) ∧ va_RA s cA (.object C) := by
  obtain ⟨comp, cA, k, h1, h2, h3, h4, h5⟩ := Cond.arrayOver_spec h
  exact ⟨cA, fun n z => ⟨fun k h => (by cases h), k, h3, comp, h4⟩, k, comp, h3, h4, h1, h5⟩
theorem lw_K {s : State} {args : Array Value} (hts : ∀ w ∈ lw_tbl, w.before args s = true) : ∃ (D : va_G) (cy : Nat → ClassId), va_K D vwCl (gT cy) s := by
  obtain ⟨c0, i0, k0⟩ := u_known (ws := lw_tbl) (C := RX0) (T := TX0) (N := 4) (n := 4) hts (fun w hw => wAll_sub w (ku_X0 w hw)) (hts _ (wAll_sub _ (kAll 33 (by decide +kernel) (by decide +kernel))))
  obtain ⟨c1, i1, k1⟩ := u_known (ws := lw_tbl) (C := RX1) (T := TX1) (N := 4) (n := 4) hts (fun w hw => wAll_sub w (ku_X1 w hw)) (hts _ (wAll_sub _ (kAll 76 (by decide +kernel) (by decide +kernel))))
  obtain ⟨c2, i2, k2⟩ := u_known (ws := lw_tbl) (C := RX2) (T := TX2) (N := 3) (n := 3) hts (fun w hw => wAll_sub w (ku_X2 w hw)) (hts _ (wAll_sub _ (kAll 57 (by decide +kernel) (by decide +kernel))))
  obtain ⟨c3, i3, k3⟩ := u_known (ws := lw_tbl) (C := RX3) (T := TX3) (N := 10) (n := 10) hts (fun w hw => wAll_sub w (ku_X3 w hw)) (hts _ (wAll_sub _ (kAll 25 (by decide +kernel) (by decide +kernel))))
  obtain ⟨c4, i4, k4⟩ := u_known (ws := lw_tbl) (C := RX4) (T := TX4) (N := 10) (n := 10) hts (fun w hw => wAll_sub w (ku_X4 w hw)) (hts _ (wAll_sub _ (kAll 558 (by decide +kernel) (by decide +kernel))))
  obtain ⟨y0, g0, r0⟩ := lw_arrI (hts (.arrayClass .int) (List.mem_of_getElem? (i := 53) (by decide +kernel)))
  obtain ⟨y1, g1, r1⟩ := lw_arrZ (hts (.arrayClass .boolean) (List.mem_of_getElem? (i := 54) (by decide +kernel)))
  obtain ⟨y2, g2, r2⟩ := lw_arrO (hts (.arrayOver (.object "StreetOrgans$Tune")) (List.mem_of_getElem? (i := 56) (by decide +kernel)))
  obtain ⟨y3, g3, r3⟩ := lw_arrO (hts (.arrayOver (.object "StreetOrgans$Street")) (List.mem_of_getElem? (i := 75) (by decide +kernel)))
  obtain ⟨y4, g4, r4⟩ := lw_arrA (lw_zAO hts)
  refine ⟨(fun c => match c with | 0 => c0 | 1 => c1 | 2 => c2 | 3 => c3 | _ => c4, fun c => match c with | 0 => i0 | 1 => i1 | 2 => i2 | 3 => i3 | _ => i4), fun k => match k with | 0 => y0 | 1 => y1 | 2 => y2 | 3 => y3 | _ => y4, fun c q hq => ?_, fun k q hk => ?_⟩
  · match c, hq with
    | 0, hq => cases hq; exact k0
    | 1, hq => cases hq; exact k1
    | 2, hq => cases hq; exact k2
    | 3, hq => cases hq; exact k3
    | 4, hq => cases hq; exact k4
  · match k, hk with
    | 0, hk => cases hk; exact ⟨g0, r0⟩
    | 1, hk => cases hk; exact ⟨g1, r1⟩
    | 2, hk => cases hk; exact ⟨g2, r2⟩
    | 3, hk => cases hk; exact ⟨g3, r3⟩
    | 4, hk => cases hk; exact ⟨g4, r4⟩
theorem lw_AO {s : State} {args : Array Value} (hts : ∀ w ∈ lw_tbl, w.before args s = true) : ∀ C9 ∈ [RX2, RX1], va_AO C9 s := by
  intro C9 h
  rcases List.mem_cons.mp h with rfl | h
  · exact va_AO.of (hts (.arrayOver (.object "StreetOrgans$Tune")) (List.mem_of_getElem? (i := 56) (by decide +kernel)))
  · obtain rfl := List.mem_singleton.mp h
    exact va_AO.of (hts (.arrayOver (.object "StreetOrgans$Street")) (List.mem_of_getElem? (i := 75) (by decide +kernel)))
theorem gNsw_tbl : gNsw.all (fun w => lw_tbl.contains w) = true := by decide +kernel
theorem lw_nst {s : State} {args : Array Value} (hts : ∀ w ∈ lw_tbl, w.before args s = true) : gNst s := fun w hw => va_Nw.of (gNsw_ot w hw) (hts w (List.contains_iff_mem.mp (List.all_eq_true.mp gNsw_tbl w hw)))
theorem gStr_tbl : gStr.all (fun q => lw_tbl.contains (.stringRef q.1 q.2.1 q.2.2)) = true := by decide +kernel
theorem gStr_giv : gStr.all (fun q => (flatC (Jvm.Cond.and given_1 narrow_1)).contains (.exactly (.string q.1 q.2.1) "java/lang/String")) = true := by decide +kernel
theorem lw_env {s : State} {args : Array Value} (hts : ∀ w ∈ lw_tbl, w.before args s = true) (hgv : (Jvm.Cond.and given_1 narrow_1).before args s = true) : gEnv s (fun q => s.heap.size ≤ q) := by
  have hs := flat_of_before _ hgv
  refine ⟨vx_Zqof (hts (.laysStatic Bundle.tN "UNASSIGNED_STACK" Bundle.steD) (List.mem_of_getElem? (i := 164) (by decide +kernel))) (hts (.initialized "java/lang/Throwable") (List.mem_of_getElem? (i := 15) (by decide +kernel))) (hs (.isRef (.static Bundle.tN "UNASSIGNED_STACK" Bundle.steD)) (by decide +kernel)) (fun a h => Nat.not_le.mpr h), vx_Zqof (hts (.laysStatic Bundle.tN "SUPPRESSED_SENTINEL" Bundle.listD) (List.mem_of_getElem? (i := 166) (by decide +kernel))) (hts (.initialized "java/lang/Throwable") (List.mem_of_getElem? (i := 15) (by decide +kernel))) (hs (.isRef (.static Bundle.tN "SUPPRESSED_SENTINEL" Bundle.listD)) (by decide +kernel)) (fun a h => Nat.not_le.mpr h), fun q hq => ?_⟩
  have h1 := hts _ (List.contains_iff_mem.mp (List.all_eq_true.mp gStr_tbl q hq))
  have h2 := hs _ (List.contains_iff_mem.mp (List.all_eq_true.mp gStr_giv q hq))
  obtain ⟨a, _, _, _, h3, _⟩ := Cond.exactly_spec h2
  exact ⟨a, vk_R.of h1 h3⟩
theorem lw_st {l : Launch} (h : l.flags = flags0) : l.stackTraces = false := by
  unfold Launch.stackTraces
  rw [h]
  decide +kernel
