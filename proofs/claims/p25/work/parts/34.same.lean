theorem wrn_abs {ρ : gSt} (hPi : ∀ i, i < 12 → pipI ρ 1 i) : abs12 ρ 2 = wrn ρ 1 := sumI_congr (fun j hj => by
  obtain ⟨⟨w, hw, e⟩, _⟩ := hPi j hj
  show ab (ρ 2 j) = ρ (1 + 1) j
  rw [show ρ (1 + 1) j = nI w from e]
  unfold ab
  rw [if_pos (show 0 ≤ nI w from (nI_leI (a := 0) (b := w) (by omega) (by omega)).mpr (by omega))])
theorem mean_cmp : ∀ s : Fin 361, ∀ t : Fin 7, t.val = 0 ∨ Op.cmpValue (FP.dcmp (FP.ddiv (FP.i2d (nI s.val)) (FP.i2d (nI t.val))) (FP.ddiv (FP.i2d (nI s.val)) (FP.i2d (nI t.val)))) .l = 0 := by decide +kernel
theorem mean_c0 : Op.cmpValue (FP.dcmp 0 0) .l = 0 := by decide +kernel
theorem Inv_mcmp {ρ : gSt} {N T S d : Nat} (hI : Inv ρ N T S d) (h0 : ¬ nI T = 0) : Op.cmpValue (FP.dcmp (FP.ddiv (FP.i2d (sumI (fun t => sndC ρ 1 t (-1)) T)) (FP.i2d (nI T))) (FP.ddiv (FP.i2d (sumI (fun t => sndC ρ 1 t (-1)) T)) (FP.i2d (nI T)))) .l = 0 := by
  obtain ⟨hT, hT6, hS, hS8, hd, hdN, hN, hTu, hSt, hPi, hZ, hHd⟩ := id hI
  obtain ⟨s, hs, e⟩ := sumI_N (M := 60) (f := fun t => sndC ρ 1 t (-1)) (k := T) (fun j hj => snd_N (hTu j (by omega)) hPi)
  rw [e]
  exact (mean_cmp ⟨s, by omega⟩ ⟨T, by omega⟩).resolve_left (fun q => h0 (by rw [show T = 0 from q]; rfl))
set_option maxHeartbeats 2000000 in
set_option maxRecDepth 100000 in
theorem c_X4_isSame (l : Launch) (hl0 : l.stackTraces = false) (D : va_G) (cy : Nat → ClassId) (ad : Nat → Nat) (ρ : gSt) (S T N d : Nat) (Ln : Nat → Nat) (hI : Inv ρ N T S d) (hLn : LnOK ρ T Ln) (hpm : ∀ z, z < 8 → ∃ u : Nat, u ≤ 127 ∧ ρ (32 + 2 * z) 2 = nI u) : gYI l yX4_isSame cX4_isSame 9 (some .boolean) { frames := 8, cells := 1000, slots := 6000, locals := 133 } D cy (48 + (8 + S + T)) ad (cW ad cy S T Ln) [.ref (ad 48), .ref (ad 0)] (wR S ρ ρ) (fun r ρ1 => r = 1 ∧ ρ1 = wR S ρ ρ) 1000 6000 := by
  refine gYI_of (ls := [(0, .ref (ad 48)), (1, .ref (ad 0))]) RX4 rfl (by decide +kernel) (Nat.le_of_ble_eq_true rfl) rfl ?_
  intro p e s m args below meth c A X hE hr hlk hnm
  obtain ⟨hT, hT6, hS, hS8, hd, hdN, hN, hTu0, hSt, hPi, hZ, hHd⟩ := id hI
  have hTu : ∀ t, t < T → tunI ρ t := fun t ht => hTu0 t (by omega)
  have hwd : wdF ρ = nI (d % 7) := by unfold wdF; rw [hd, nI_clamp (by omega)]
  refine g_F0 (fa := fun _ => 0) (fz := fun _ _ => .inr (0, [])) (φ := z0) ?_
  refine g_bipush X (v := 9) dX4_isSame_0 (by decide) ?_
  refine g_pushi X 1 rfl 9 (by decide) kac_int ⟨by show _ ≤ 1000; omega, by show _ ≤ 6000; omega⟩ dX4_isSame_2 (fun q_1 => ?_)
  obtain ⟨φ_2, sφ_2⟩ : ∃ φz, φz = xRo z0 0 := ⟨_, rfl⟩
  rw [← sφ_2]
  refine g_dup X dX4_isSame_4 rfl ?_
  refine g_iconst X (v := 0) dX4_isSame_5 (by decide) ?_
  refine g_aload_n X dX4_isSame_6 0 rfl rfl ?_
  refine g_geti X (1 + 48 + 0) (by show 1 + 48 + 0 < 1 + (48 + (8 + S + T)); omega) 0 (by decide) ku_X4 kv_X4 kf_X4_45 rfl (gSub_fi (off := 1 + 48) (sub_FS (fa := fun _ => 0) (ad := ad)) lS_day (by omega)) dX4_isSame_7 ?_
  rw [rF, rS_day]
  refine g_iastN X 0 0 (by show 0 < 1 + (48 + (8 + S + T)); omega) (jF_ai gAI_n (by decide)) (by omega) (by decide) dX4_isSame_10 (fun ρ_3 eρ_3 => ?_)
  obtain ⟨φ_4, sφ_4, rfl⟩ := wFl eρ_3 (show 0 < 1 by decide)
  refine g_dup X dX4_isSame_11 rfl ?_
  refine g_iconst X (v := 1) dX4_isSame_12 (by decide) ?_
  refine g_aload_n X dX4_isSame_13 0 rfl rfl ?_
  refine g_geti X (1 + 48 + 0) (by show 1 + 48 + 0 < 1 + (48 + (8 + S + T)); omega) 0 (by decide) ku_X4 kv_X4 kf_X4_45 rfl (gSub_fi (off := 1 + 48) (sub_FS (fa := fun _ => 0) (ad := ad)) lS_day (by omega)) dX4_isSame_14 ?_
  rw [rF, rS_day]
  refine g_bipush X (v := 7) dX4_isSame_17 (by decide) ?_
  refine g_irem X dX4_isSame_19 (by decide) ?_
  rw [hd, remN7 (by omega), ← hwd]
  refine g_iastN X 0 1 (by show 0 < 1 + (48 + (8 + S + T)); omega) (jF_ai gAI_n (by decide)) (by omega) (by decide) dX4_isSame_20 (fun ρ_5 eρ_5 => ?_)
  obtain ⟨φ_6, sφ_6, rfl⟩ := wFl eρ_5 (show 0 < 1 by decide)
  refine g_dup X dX4_isSame_21 rfl ?_
  refine g_iconst X (v := 2) dX4_isSame_22 (by decide) ?_
  refine g_aload_n X dX4_isSame_23 0 rfl rfl ?_
  refine g_geti X (1 + 48 + 0) (by show 1 + 48 + 0 < 1 + (48 + (8 + S + T)); omega) 1 (by decide) ku_X4 kv_X4 kf_X4_7 rfl (gSub_fi (off := 1 + 48) (sub_FS (fa := fun _ => 0) (ad := ad)) lS_coins (by omega)) dX4_isSame_24 ?_
  rw [rF, rS_coins]
  refine g_iastN X 0 2 (by show 0 < 1 + (48 + (8 + S + T)); omega) (jF_ai gAI_n (by decide)) (by omega) (by decide) dX4_isSame_27 (fun ρ_7 eρ_7 => ?_)
  obtain ⟨φ_8, sφ_8, rfl⟩ := wFl eρ_7 (show 0 < 1 by decide)
  refine g_dup X dX4_isSame_28 rfl ?_
  refine g_iconst X (v := 3) dX4_isSame_29 (by decide) ?_
  refine g_aload_n X dX4_isSame_30 0 rfl rfl ?_
  refine g_getr X (1 + 48 + 0) (by show 1 + 48 + 0 < 1 + (48 + (8 + S + T)); omega) 7 (by decide) ku_X4 kv_X4 kf_X4_28 rfl (gSub_fr (off := 1 + 48) sub_FS lS_tunes (by omega) (by omega)) dX4_isSame_31 ?_
  refine g_alen (t0 := 4) X (1 + 48 + 5) (by show 1 + 48 + 5 < 1 + (48 + (8 + S + T)); omega) (gAR.ln (gSub_ar (off := 1 + 48) (sub_FS (fa := fun _ => 0) (ad := ad)) lS_ts (by omega) (fun i hi => by omega))) rfl dX4_isSame_34 ?_
  refine g_iastN X 0 3 (by show 0 < 1 + (48 + (8 + S + T)); omega) (jF_ai gAI_n (by decide)) (by omega) (by decide) dX4_isSame_35 (fun ρ_9 eρ_9 => ?_)
  obtain ⟨φ_10, sφ_10, rfl⟩ := wFl eρ_9 (show 0 < 1 by decide)
  refine g_dup X dX4_isSame_36 rfl ?_
  refine g_iconst X (v := 4) dX4_isSame_37 (by decide) ?_
  refine g_aload_n X dX4_isSame_38 0 rfl rfl ?_
  refine g_getr X (1 + 48 + 0) (by show 1 + 48 + 0 < 1 + (48 + (8 + S + T)); omega) 8 (by decide) ku_X4 kv_X4 kf_X4_32 rfl (gSub_fr (off := 1 + 48) sub_FS lS_streets (by omega) (by omega)) dX4_isSame_39 ?_
  refine g_alen (t0 := 4) X (1 + 48 + 6) (by show 1 + 48 + 6 < 1 + (48 + (8 + S + T)); omega) (gAR.ln (gSub_ar (off := 1 + 48) (sub_FS (fa := fun _ => 0) (ad := ad)) lS_ss (by omega) (fun i hi => by omega))) rfl dX4_isSame_42 ?_
  refine g_iastN X 0 4 (by show 0 < 1 + (48 + (8 + S + T)); omega) (jF_ai gAI_n (by decide)) (by omega) (by decide) dX4_isSame_43 (fun ρ_11 eρ_11 => ?_)
  obtain ⟨φ_12, sφ_12, rfl⟩ := wFl eρ_11 (show 0 < 1 by decide)
  refine g_dup X dX4_isSame_44 rfl ?_
  refine g_iconst X (v := 5) dX4_isSame_45 (by decide) ?_
  refine g_aload_n X dX4_isSame_46 0 rfl rfl ?_
  refine g_sc (F := 1) X (c_X4_crickets l D cy (aS ad) ρ S T Ln) kl_X4_66 ⟨rfl, rfl, Nat.le_of_ble_eq_true rfl, Nat.le_of_ble_eq_true rfl⟩ rfl rfl (Nat.le_of_ble_eq_true rfl) dX4_isSame_47 ⟨by show _ ≤ 1000; omega, by show _ ≤ 6000; omega⟩ ?_
  refine g_iastN X 0 5 (by show 0 < 1 + (48 + (8 + S + T)); omega) (jF_ai gAI_n (by decide)) (by omega) (by decide) dX4_isSame_50 (fun ρ_13 eρ_13 => ?_)
  obtain ⟨φ_14, sφ_14, rfl⟩ := wFl eρ_13 (show 0 < 1 by decide)
  refine g_dup X dX4_isSame_51 rfl ?_
  refine g_bipush X (v := 6) dX4_isSame_52 (by decide) ?_
  refine g_aload_n X dX4_isSame_54 0 rfl rfl ?_
  refine g_aload_n X dX4_isSame_55 0 rfl rfl ?_
  refine g_getr X (1 + 48 + 0) (by show 1 + 48 + 0 < 1 + (48 + (8 + S + T)); omega) 3 (by decide) ku_X4 kv_X4 kf_X4_13 rfl (gSub_fr (off := 1 + 48) sub_FS lS_worn (by omega) (by omega)) dX4_isSame_56 ?_
  refine g_sc (F := 1) X (c_X4_sum_w l D cy (aS ad) ρ S T Ln) kl_X4_70 ⟨rfl, rfl, Nat.le_of_ble_eq_true rfl, Nat.le_of_ble_eq_true rfl⟩ rfl rfl (Nat.le_of_ble_eq_true rfl) dX4_isSame_59 ⟨by show _ ≤ 1000; omega, by show _ ≤ 6000; omega⟩ ?_
  refine g_iastN X 0 6 (by show 0 < 1 + (48 + (8 + S + T)); omega) (jF_ai gAI_n (by decide)) (by omega) (by decide) dX4_isSame_62 (fun ρ_15 eρ_15 => ?_)
  obtain ⟨φ_16, sφ_16, rfl⟩ := wFl eρ_15 (show 0 < 1 by decide)
  refine g_dup X dX4_isSame_63 rfl ?_
  refine g_bipush X (v := 7) dX4_isSame_64 (by decide) ?_
  refine g_aload_n X dX4_isSame_66 0 rfl rfl ?_
  refine g_aload_n X dX4_isSame_67 0 rfl rfl ?_
  refine g_getr X (1 + 48 + 0) (by show 1 + 48 + 0 < 1 + (48 + (8 + S + T)); omega) 4 (by decide) ku_X4 kv_X4 kf_X4_17 rfl (gSub_fr (off := 1 + 48) sub_FS lS_off (by omega) (by omega)) dX4_isSame_68 ?_
  refine g_sc (F := 1) X (c_X4_sum_o l D cy (aS ad) ρ S T Ln) kl_X4_70 ⟨rfl, rfl, Nat.le_of_ble_eq_true rfl, Nat.le_of_ble_eq_true rfl⟩ rfl rfl (Nat.le_of_ble_eq_true rfl) dX4_isSame_71 ⟨by show _ ≤ 1000; omega, by show _ ≤ 6000; omega⟩ ?_
  refine g_iastN X 0 7 (by show 0 < 1 + (48 + (8 + S + T)); omega) (jF_ai gAI_n (by decide)) (by omega) (by decide) dX4_isSame_74 (fun ρ_17 eρ_17 => ?_)
  obtain ⟨φ_18, sφ_18, rfl⟩ := wFl eρ_17 (show 0 < 1 by decide)
  refine g_dup X dX4_isSame_75 rfl ?_
  refine g_bipush X (v := 8) dX4_isSame_76 (by decide) ?_
  refine g_aload_n X dX4_isSame_78 0 rfl rfl ?_
  refine g_geti X (1 + 48 + 0) (by show 1 + 48 + 0 < 1 + (48 + (8 + S + T)); omega) 2 (by decide) ku_X4 kv_X4 kf_X4_48 rfl (gSub_fi (off := 1 + 48) (sub_FS (fa := fun _ => 0) (ad := ad)) lS_fines (by omega)) dX4_isSame_79 ?_
  rw [rF, rS_fines]
  refine g_iastN X 0 8 (by show 0 < 1 + (48 + (8 + S + T)); omega) (jF_ai gAI_n (by decide)) (by omega) (by decide) dX4_isSame_82 (fun ρ_19 eρ_19 => ?_)
  obtain ⟨φ_20, sφ_20, rfl⟩ := wFl eρ_19 (show 0 < 1 by decide)
  refine g_astore_n X [(2, .ref _), (0, .ref _), (1, .ref _)] dX4_isSame_83 rfl (by decide) rfl ?_
  have hdue : ∀ w, w < 9 → φ_20 0 w = countF ρ w := by
      intro w hw
      subst_vars
      rcases (show w = 0 ∨ w = 1 ∨ w = 2 ∨ w = 3 ∨ w = 4 ∨ w = 5 ∨ w = 6 ∨ w = 7 ∨ w = 8 by omega) with rfl | rfl | rfl | rfl | rfl | rfl | rfl | rfl | rfl
      all_goals simp [up2_e, countF, sumUpF, hT, hS, wrn_abs hPi]
      all_goals rfl
  refine g_iconst X (v := 0) dX4_isSame_84 (by decide) ?_
  refine g_istore_n X [(3, .int _), (2, .ref _), (0, .ref _), (1, .ref _)] dX4_isSame_85 rfl (by decide) rfl ?_
  refine g_widen (k9 := ((((0 + 1) + 0) + 0) + 0) + 3 * 0) (n9 := ((((0 + 9) + 0) + 0) + 0) + 18 * 0) (by omega) (by omega) ?_
  refine g_ls (ls' := [(0, .ref _), (1, .ref _), (2, .ref _), (3, .int _)]) [2, 3, 1, 0] rfl ?_
  refine g_loop (fun _ => True) (fun _ => jF 1 φ_20 (wR S ρ ρ)) (fun i => [(0, .ref (ad 48)), (1, .ref (ad 0)), (2, .ref q_1), (3, .int (nI i))]) (fun i => ((((0 + 1) + 0) + 0) + 0) + 3 * i) (fun i => ((((0 + 9) + 0) + 0) + 0) + 18 * i) 9 0 trivial (by omega) rfl rfl rfl rfl (fun i h0i hi hIi ihi => ?_)
  refine g_iload_n X dX4_isSame_86 3 rfl rfl ?_
  refine g_bipush X (v := 9) dX4_isSame_87 (by decide) ?_
  refine g_icmp_geN X i 9 111 (by omega) (by omega) dX4_isSame_89 (by decide) (fun c_21 => ?_) (fun c_21 => ?_)
  · skip
    refine g_widen (k9 := 28) (n9 := 171) (by omega) (by omega) ?_
    refine g_popF ?_
    refine g_0F ?_
    refine g_F0 (fa := fun _ => 0) (fz := fun _ _ => .inr (0, [])) (φ := z0) ?_
    refine g_iconst X (v := 0) dX4_isSame_111 (by decide) ?_
    refine g_istore_n X [(3, .int _), (0, .ref _), (1, .ref _), (2, .ref _)] dX4_isSame_112 rfl (by decide) rfl ?_
    refine g_widen (k9 := 28 + 16 * 0) (n9 := 171 + 95 * 0) (by omega) (by omega) ?_
    refine g_ls (ls' := [(0, .ref _), (1, .ref _), (3, .int _)]) [1, 2, 0] rfl ?_
    refine g_loop (fun _ => True) (fun _ => jF 0 z0 (wR S ρ ρ)) (fun i => [(0, .ref (ad 48)), (1, .ref (ad 0)), (3, .int (nI i))]) (fun i => 28 + 16 * i) (fun i => 171 + 95 * i) 12 0 trivial (by omega) rfl rfl rfl rfl (fun i h0i hi hIi ihi => ?_)
    refine g_iload_n X dX4_isSame_113 2 rfl rfl ?_
    refine g_bipush X (v := 12) dX4_isSame_114 (by decide) ?_
    refine g_icmp_geN X i 12 222 (by omega) (by omega) dX4_isSame_116 (by decide) (fun c_22 => ?_) (fun c_22 => ?_)
    · skip
      refine g_widen (k9 := 220) (n9 := 1311) (by omega) (by omega) ?_
      refine g_iconst X (v := 0) dX4_isSame_222 (by decide) ?_
      refine g_istore_n X [(3, .int _), (0, .ref _), (1, .ref _)] dX4_isSame_223 rfl (by decide) rfl ?_
      refine g_iconst X (v := 0) dX4_isSame_224 (by decide) ?_
      refine g_istore X [(4, .int _), (3, .int _), (0, .ref _), (1, .ref _)] dX4_isSame_225 (by decide) rfl ?_
      refine g_widen (k9 := 220 + 51 * 0) (n9 := 1311 + 306 * 0) (by omega) (by omega) ?_
      refine g_ls (ls' := [(0, .ref _), (1, .ref _), (3, .int _), (4, .int _)]) [2, 3, 1, 0] rfl ?_
      refine g_loop (fun _ => True) (fun _ => jF 0 z0 (wR S ρ ρ)) (fun t => [(0, .ref (ad 48)), (1, .ref (ad 0)), (3, .int (sumI (fun t => sndC ρ 1 t (-1)) t)), (4, .int (nI t))]) (fun t => 220 + 51 * t) (fun t => 1311 + 306 * t) T 0 trivial (by omega) rfl rfl rfl rfl (fun t h0t ht hIt iht => ?_)
      refine g_iload X dX4_isSame_227 3 rfl ?_
      refine g_aload_n X dX4_isSame_229 0 rfl rfl ?_
      refine g_getr X (0 + 48 + 0) (by show 0 + 48 + 0 < 0 + (48 + (8 + S + T)); omega) 7 (by decide) ku_X4 kv_X4 kf_X4_28 rfl (gSub_fr (off := 0 + 48) sub_FS lS_tunes (by omega) (by omega)) dX4_isSame_230 ?_
      refine g_alen (t0 := 4) X (0 + 48 + 5) (by show 0 + 48 + 5 < 0 + (48 + (8 + S + T)); omega) (gAR.ln (gSub_ar (off := 0 + 48) (sub_FS (fa := fun _ => 0) (ad := ad)) lS_ts (by omega) (fun i hi => by omega))) rfl dX4_isSame_233 ?_
      refine g_icmp_geN X t T 314 (by omega) (by omega) dX4_isSame_234 (by decide) (fun c_23 => ?_) (fun c_23 => ?_)
      · skip
        refine g_widen (k9 := 526) (n9 := 3147) (by omega) (by omega) ?_
        have htT : t = T := by omega
        rw [htT]
        refine g_iconst X (v := 0) dX4_isSame_314 (by decide) ?_
        refine g_istore X [(4, .int _), (0, .ref _), (1, .ref _), (3, .int _)] dX4_isSame_315 (by decide) rfl ?_
        refine g_widen (k9 := 526 + 34 * 0) (n9 := 3147 + 203 * 0) (by omega) (by omega) ?_
        refine g_ls (ls' := [(0, .ref _), (1, .ref _), (3, .int _), (4, .int _)]) [1, 2, 3, 0] rfl ?_
        refine g_loop (fun _ => True) (fun _ => jF 0 z0 (wR S ρ ρ)) (fun k => [(0, .ref (ad 48)), (1, .ref (ad 0)), (3, .int (sumI (fun t => sndC ρ 1 t (-1)) T)), (4, .int (nI k))]) (fun k => 526 + 34 * k) (fun k => 3147 + 203 * k) S 0 trivial (by omega) rfl rfl rfl rfl (fun k h0k hk hIk ihk => ?_)
        refine g_iload X dX4_isSame_317 3 rfl ?_
        refine g_aload_n X dX4_isSame_319 0 rfl rfl ?_
        refine g_getr X (0 + 48 + 0) (by show 0 + 48 + 0 < 0 + (48 + (8 + S + T)); omega) 8 (by decide) ku_X4 kv_X4 kf_X4_32 rfl (gSub_fr (off := 0 + 48) sub_FS lS_streets (by omega) (by omega)) dX4_isSame_320 ?_
        refine g_alen (t0 := 4) X (0 + 48 + 6) (by show 0 + 48 + 6 < 0 + (48 + (8 + S + T)); omega) (gAR.ln (gSub_ar (off := 0 + 48) (sub_FS (fa := fun _ => 0) (ad := ad)) lS_ss (by omega) (fun i hi => by omega))) rfl dX4_isSame_323 ?_
        refine g_icmp_geN X k S 478 (by omega) (by omega) dX4_isSame_324 (by decide) (fun c_24 => ?_) (fun c_24 => ?_)
        · skip
          refine g_widen (k9 := 798) (n9 := 4771) (by omega) (by omega) ?_
          refine g_aload_n X dX4_isSame_478 1 rfl rfl ?_
          refine g_dc (F := 0) X (c_X3_mean l D cy ad ρ N T S d hI) kl_X4_90 ⟨rfl, rfl, Nat.le_of_ble_eq_true rfl, Nat.le_of_ble_eq_true rfl⟩ rfl rfl (Nat.le_of_ble_eq_true rfl) dX4_isSame_479 ⟨by show _ ≤ 1000; omega, by show _ ≤ 6000; omega⟩ ?_
          refine g_aload_n X dX4_isSame_482 0 rfl rfl ?_
          refine g_getr X (0 + 48 + 0) (by show 0 + 48 + 0 < 0 + (48 + (8 + S + T)); omega) 7 (by decide) ku_X4 kv_X4 kf_X4_28 rfl (gSub_fr (off := 0 + 48) sub_FS lS_tunes (by omega) (by omega)) dX4_isSame_483 ?_
          refine g_alen (t0 := 4) X (0 + 48 + 5) (by show 0 + 48 + 5 < 0 + (48 + (8 + S + T)); omega) (gAR.ln (gSub_ar (off := 0 + 48) (sub_FS (fa := fun _ => 0) (ad := ad)) lS_ts (by omega) (fun i hi => by omega))) rfl dX4_isSame_486 ?_
          refine g_if_ne X 494 dX4_isSame_487 (by decide) (fun c_25 => ?_) (fun c_25 => ?_)
          · skip
            have cT := c_25
            have hcmp : Op.cmpValue (FP.dcmp (meaF ρ) (FP.ddiv (FP.i2d (sumI (fun t => sndC ρ 1 t (-1)) T)) (FP.i2d (nI T)))) .l = 0 := by
              unfold meaF
              rw [if_neg (by rw [hT]; exact cT), hT, ix_N (k := T) (by omega)]
              exact Inv_mcmp hI cT
            refine g_iload_n X dX4_isSame_494 2 rfl rfl ?_
            refine g_i2d X dX4_isSame_495 ?_
            refine g_aload_n X dX4_isSame_496 0 rfl rfl ?_
            refine g_getr X (0 + 48 + 0) (by show 0 + 48 + 0 < 0 + (48 + (8 + S + T)); omega) 7 (by decide) ku_X4 kv_X4 kf_X4_28 rfl (gSub_fr (off := 0 + 48) sub_FS lS_tunes (by omega) (by omega)) dX4_isSame_497 ?_
            refine g_alen (t0 := 4) X (0 + 48 + 5) (by show 0 + 48 + 5 < 0 + (48 + (8 + S + T)); omega) (gAR.ln (gSub_ar (off := 0 + 48) (sub_FS (fa := fun _ => 0) (ad := ad)) lS_ts (by omega) (fun i hi => by omega))) rfl dX4_isSame_500 ?_
            refine g_i2d X dX4_isSame_501 ?_
            refine g_ddiv X dX4_isSame_502 (Inv_mean hI cT) ?_
            refine g_dcmp X dX4_isSame_503 ?_
            rw [hcmp]
            refine g_if_ne X 511 dX4_isSame_504 (by decide) (fun c_26 => ?_) (fun c_26 => ?_)
            · exfalso; exact c_26 rfl
            · skip
              refine g_iconst X (v := 1) dX4_isSame_507 (by decide) ?_
              refine g_goto X 512 dX4_isSame_508 (by decide) ?_
              refine g_0F ?_
              exact g_zret X hr hlk (by decide) (by omega) (by omega) dX4_isSame_512 (⟨rfl, rfl⟩)
          · skip
            have cT := c_25
            have hcmp : Op.cmpValue (FP.dcmp (meaF ρ) 0) .l = 0 := by
              unfold meaF
              rw [if_pos (hT.trans cT)]
              exact mean_c0
            refine g_dconst0 X dX4_isSame_490 ?_
            refine g_goto X 503 dX4_isSame_491 (by decide) ?_
            refine g_dcmp X dX4_isSame_503 ?_
            rw [hcmp]
            refine g_if_ne X 511 dX4_isSame_504 (by decide) (fun c_27 => ?_) (fun c_27 => ?_)
            · exfalso; exact c_27 rfl
            · skip
              refine g_iconst X (v := 1) dX4_isSame_507 (by decide) ?_
              refine g_goto X 512 dX4_isSame_508 (by decide) ?_
              refine g_0F ?_
              exact g_zret X hr hlk (by decide) (by omega) (by omega) dX4_isSame_512 (⟨rfl, rfl⟩)
        · skip
          obtain ⟨pu, hpu, epu⟩ := hpm k (by omega)
          have hsr : ρ (32 + 2 * k) 2 >>> (nI (d % 7) &&& 31) &&& 1 = pmF (ρ (32 + 2 * k) 2) (wdF ρ) := by rw [epu, hwd]; exact pm_sr hpu (by omega)
          refine g_aload_n X dX4_isSame_327 0 rfl rfl ?_
          refine g_getr X (0 + 48 + 0) (by show 0 + 48 + 0 < 0 + (48 + (8 + S + T)); omega) 8 (by decide) ku_X4 kv_X4 kf_X4_32 rfl (gSub_fr (off := 0 + 48) sub_FS lS_streets (by omega) (by omega)) dX4_isSame_328 ?_
          refine g_iload X dX4_isSame_331 3 rfl ?_
          refine g_aaldA X (0 + 48 + 6) k (by show 0 + 48 + 6 < 0 + (48 + (8 + S + T)); omega) (gSub_ar (off := 0 + 48) sub_FS lS_ss (by omega) (fun i hi => by omega)) rfl (by omega) (by omega) dX4_isSame_333 ?_
          rw [jF_48]
          refine g_astore X [(5, .ref _), (0, .ref _), (1, .ref _), (3, .int _), (4, .int _)] dX4_isSame_334 (by decide) rfl ?_
          refine g_iconst X (v := 0) dX4_isSame_336 (by decide) ?_
          refine g_istore X [(6, .int _), (5, .ref _), (0, .ref _), (1, .ref _), (3, .int _), (4, .int _)] dX4_isSame_337 (by decide) rfl ?_
          refine g_iconst X (v := 0) dX4_isSame_339 (by decide) ?_
          refine g_istore X [(7, .int _), (6, .int _), (5, .ref _), (0, .ref _), (1, .ref _), (3, .int _), (4, .int _)] dX4_isSame_340 (by decide) rfl ?_
          refine g_widen (k9 := (526 + 34 * k) + 3 * 0) (n9 := (3147 + 203 * k) + 18 * 0) (by omega) (by omega) ?_
          refine g_ls (ls' := [(0, .ref _), (1, .ref _), (3, .int _), (4, .int _), (5, .ref _), (6, .int _), (7, .int _)]) [3, 4, 5, 6, 2, 1, 0] rfl ?_
          refine g_loop (fun _ => True) (fun _ => jF 0 z0 (wR S ρ ρ)) (fun u => [(0, .ref (ad 48)), (1, .ref (ad 0)), (3, .int (sumI (fun t => sndC ρ 1 t (-1)) T)), (4, .int (nI k)), (5, .ref (ad (48 + (8 + k)))), (6, .int (sumI (fun j => ρ (33 + 2 * k) j) u)), (7, .int (nI u))]) (fun u => (526 + 34 * k) + 3 * u) (fun u => (3147 + 203 * k) + 18 * u) T 0 trivial (by omega) rfl rfl rfl rfl (fun u h0u hu hIu ihu => ?_)
          refine g_iload X dX4_isSame_342 6 rfl ?_
          refine g_aload_n X dX4_isSame_344 0 rfl rfl ?_
          refine g_getr X (0 + 48 + 0) (by show 0 + 48 + 0 < 0 + (48 + (8 + S + T)); omega) 7 (by decide) ku_X4 kv_X4 kf_X4_28 rfl (gSub_fr (off := 0 + 48) sub_FS lS_tunes (by omega) (by omega)) dX4_isSame_345 ?_
          refine g_alen (t0 := 4) X (0 + 48 + 5) (by show 0 + 48 + 5 < 0 + (48 + (8 + S + T)); omega) (gAR.ln (gSub_ar (off := 0 + 48) (sub_FS (fa := fun _ => 0) (ad := ad)) lS_ts (by omega) (fun i hi => by omega))) rfl dX4_isSame_348 ?_
          refine g_icmp_geN X u T 391 (by omega) (by omega) dX4_isSame_349 (by decide) (fun c_28 => ?_) (fun c_28 => ?_)
          · skip
            refine g_iconst X (v := 5) dX4_isSame_391 (by decide) ?_
            refine g_pushi X 1 rfl 5 (by decide) kac_int ⟨by show _ ≤ 1000; omega, by show _ ≤ 6000; omega⟩ dX4_isSame_392 (fun q_29 => ?_)
            obtain ⟨φ_30, sφ_30⟩ : ∃ φz, φz = xRo z0 0 := ⟨_, rfl⟩
            rw [← sφ_30]
            refine g_dup X dX4_isSame_394 rfl ?_
            refine g_iconst X (v := 0) dX4_isSame_395 (by decide) ?_
            refine g_aload X dX4_isSame_396 4 rfl ?_
            refine g_iconst X (v := 0) dX4_isSame_398 (by decide) ?_
            refine g_ialdS (F := 1) X (8 + k) 0 (lS_st (by omega)) (by omega) (by omega) (by decide) dX4_isSame_399 ?_
            rw [rF, rS_s0 (by omega)]
            refine g_iastN X 0 0 (by show 0 < 1 + (48 + (8 + S + T)); omega) (jF_ai gAI_n (by decide)) (by omega) (by decide) dX4_isSame_400 (fun ρ_31 eρ_31 => ?_)
            obtain ⟨φ_32, sφ_32, rfl⟩ := wFl eρ_31 (show 0 < 1 by decide)
            refine g_dup X dX4_isSame_401 rfl ?_
            refine g_iconst X (v := 1) dX4_isSame_402 (by decide) ?_
            refine g_aload X dX4_isSame_403 4 rfl ?_
            refine g_iconst X (v := 1) dX4_isSame_405 (by decide) ?_
            refine g_ialdS (F := 1) X (8 + k) 1 (lS_st (by omega)) (by omega) (by omega) (by decide) dX4_isSame_406 ?_
            rw [rF, rS_s1 (by omega)]
            refine g_iastN X 0 1 (by show 0 < 1 + (48 + (8 + S + T)); omega) (jF_ai gAI_n (by decide)) (by omega) (by decide) dX4_isSame_407 (fun ρ_33 eρ_33 => ?_)
            obtain ⟨φ_34, sφ_34, rfl⟩ := wFl eρ_33 (show 0 < 1 by decide)
            refine g_dup X dX4_isSame_408 rfl ?_
            refine g_iconst X (v := 2) dX4_isSame_409 (by decide) ?_
            refine g_aload X dX4_isSame_410 4 rfl ?_
            refine g_iconst X (v := 1) dX4_isSame_412 (by decide) ?_
            refine g_ialdS (F := 1) X (8 + k) 1 (lS_st (by omega)) (by omega) (by omega) (by decide) dX4_isSame_413 ?_
            rw [rF, rS_s1 (by omega)]
            refine g_aload_n X dX4_isSame_414 0 rfl rfl ?_
            refine g_geti X (1 + 48 + 0) (by show 1 + 48 + 0 < 1 + (48 + (8 + S + T)); omega) 0 (by decide) ku_X4 kv_X4 kf_X4_45 rfl (gSub_fi (off := 1 + 48) (sub_FS (fa := fun _ => 0) (ad := ad)) lS_day (by omega)) dX4_isSame_415 ?_
            rw [rF, rS_day]
            refine g_bipush X (v := 7) dX4_isSame_418 (by decide) ?_
            refine g_irem X dX4_isSame_420 (by decide) ?_
            rw [hd, remN7 (by omega)]
            refine g_ishr X dX4_isSame_421 ?_
            refine g_iconst X (v := 1) dX4_isSame_422 (by decide) ?_
            refine g_iand X dX4_isSame_423 ?_
            rw [hsr]
            refine g_iastN X 0 2 (by show 0 < 1 + (48 + (8 + S + T)); omega) (jF_ai gAI_n (by decide)) (by omega) (by decide) dX4_isSame_424 (fun ρ_35 eρ_35 => ?_)
            obtain ⟨φ_36, sφ_36, rfl⟩ := wFl eρ_35 (show 0 < 1 by decide)
            refine g_dup X dX4_isSame_425 rfl ?_
            refine g_iconst X (v := 3) dX4_isSame_426 (by decide) ?_
            refine g_aload X dX4_isSame_427 4 rfl ?_
            refine g_iconst X (v := 2) dX4_isSame_429 (by decide) ?_
            refine g_ialdS (F := 1) X (8 + k) 2 (lS_st (by omega)) (by omega) (by omega) (by decide) dX4_isSame_430 ?_
            rw [rF, rS_s2 (by omega)]
            refine g_iastN X 0 3 (by show 0 < 1 + (48 + (8 + S + T)); omega) (jF_ai gAI_n (by decide)) (by omega) (by decide) dX4_isSame_431 (fun ρ_37 eρ_37 => ?_)
            obtain ⟨φ_38, sφ_38, rfl⟩ := wFl eρ_37 (show 0 < 1 by decide)
            refine g_dup X dX4_isSame_432 rfl ?_
            refine g_iconst X (v := 4) dX4_isSame_433 (by decide) ?_
            refine g_iload X dX4_isSame_434 5 rfl ?_
            refine g_iastN X 0 4 (by show 0 < 1 + (48 + (8 + S + T)); omega) (jF_ai gAI_n (by decide)) (by omega) (by decide) dX4_isSame_436 (fun ρ_39 eρ_39 => ?_)
            obtain ⟨φ_40, sφ_40, rfl⟩ := wFl eρ_39 (show 0 < 1 by decide)
            have htold : ∀ w, w < 5 → φ_40 0 w = toldF ρ k w (wdF ρ) := by
                    intro w hw
                    have hhr : sumI (fun j => ρ (33 + 2 * k) j) u = hrd ρ k := by rw [show u = T by omega]; exact hrd_T hT6 (hHd k (by omega))
                    subst_vars
                    rcases (show w = 0 ∨ w = 1 ∨ w = 2 ∨ w = 3 ∨ w = 4 by omega) with rfl | rfl | rfl | rfl | rfl
                    all_goals simp [up2_e, toldF, hhr]
                    all_goals rfl
            refine g_astore X [(7, .ref _), (0, .ref _), (1, .ref _), (3, .int _), (4, .int _), (5, .ref _), (6, .int _)] dX4_isSame_437 (by decide) rfl ?_
            refine g_iconst X (v := 0) dX4_isSame_439 (by decide) ?_
            refine g_istore X [(8, .int _), (7, .ref _), (0, .ref _), (1, .ref _), (3, .int _), (4, .int _), (5, .ref _), (6, .int _)] dX4_isSame_440 (by decide) rfl ?_
            refine g_widen (k9 := (((526 + 34 * k) + 3 * u) + 1) + 3 * 0) (n9 := (((3147 + 203 * k) + 18 * u) + 5) + 18 * 0) (by omega) (by omega) ?_
            refine g_ls (ls' := [(0, .ref _), (1, .ref _), (3, .int _), (4, .int _), (7, .ref _), (8, .int _)]) [2, 3, 4, 5, 1, 0] rfl ?_
            refine g_loop (fun _ => True) (fun _ => jF 1 φ_40 (wR S ρ ρ)) (fun w => [(0, .ref (ad 48)), (1, .ref (ad 0)), (3, .int (sumI (fun t => sndC ρ 1 t (-1)) T)), (4, .int (nI k)), (7, .ref q_29), (8, .int (nI w))]) (fun w => (((526 + 34 * k) + 3 * u) + 1) + 3 * w) (fun w => (((3147 + 203 * k) + 18 * u) + 5) + 18 * w) 5 0 trivial (by omega) rfl rfl rfl rfl (fun w h0w hw hIw ihw => ?_)
            refine g_iload X dX4_isSame_442 5 rfl ?_
            refine g_iconst X (v := 5) dX4_isSame_444 (by decide) ?_
            refine g_icmp_geN X w 5 472 (by omega) (by omega) dX4_isSame_445 (by decide) (fun c_41 => ?_) (fun c_41 => ?_)
            · skip
              refine g_popF ?_
              refine g_0F ?_
              refine g_F0 (fa := fun _ => 0) (fz := fun _ _ => .inr (0, [])) (φ := z0) ?_
              refine g_iincN X k 4 [(4, .int _), (0, .ref _), (1, .ref _), (3, .int _), (7, .ref _), (8, .int _)] 3 dX4_isSame_472 rfl (by decide) rfl ?_
              refine g_goto X 317 dX4_isSame_475 (by decide) ?_
              refine g_ls (ls' := [(0, .ref _), (1, .ref _), (3, .int _), (4, .int _)]) [1, 2, 3, 0] rfl ?_
              refine g_widen (k9 := (526 + 34 * (k + 1))) (n9 := (3147 + 203 * (k + 1))) (by omega) (by omega) ?_
              exact g_eqv (ihk (by omega) trivial) (rfl) (rfl) rfl rfl
            · skip
              refine g_aload_n X dX4_isSame_448 1 rfl rfl ?_
              refine g_iload X dX4_isSame_449 3 rfl ?_
              refine g_iload X dX4_isSame_451 5 rfl ?_
              refine g_yc (F := 1) X hE (gYI_1 (c_X3_told l hl0 D cy ad ρ N T S d hI (nI k) (nI w)) (tol_ok (z := k) (w := w) hS hS8 (by omega) (by omega))) kl_X4_87 ⟨rfl, rfl, Nat.le_of_ble_eq_true rfl, Nat.le_of_ble_eq_true rfl⟩ rfl rfl (Nat.le_of_ble_eq_true rfl) dX4_isSame_453 ⟨by show _ ≤ 1000; omega, by show _ ≤ 6000; omega⟩ ?_
              refine g_aload X dX4_isSame_456 4 rfl ?_
              refine g_iload X dX4_isSame_458 5 rfl ?_
              refine g_ialdN X 0 w (by show 0 < 1 + (48 + (8 + S + T)); omega) (jF_ai gAI_n (by decide)) (by omega) (by decide) dX4_isSame_460 ?_
              rw [jF_lo (show 0 < 1 by decide)]
              rw [htold w (by omega)]
              refine g_icmp_eq X 466 dX4_isSame_461 (by decide) (fun c_42 => ?_) (fun c_42 => ?_)
              · skip
                refine g_iincN X w 8 [(8, .int _), (0, .ref _), (1, .ref _), (3, .int _), (4, .int _), (7, .ref _)] 5 dX4_isSame_466 rfl (by decide) rfl ?_
                refine g_goto X 442 dX4_isSame_469 (by decide) ?_
                refine g_ls (ls' := [(0, .ref _), (1, .ref _), (3, .int _), (4, .int _), (7, .ref _), (8, .int _)]) [1, 2, 3, 4, 5, 0] rfl ?_
                refine g_widen (k9 := ((((526 + 34 * k) + 3 * u) + 1) + 3 * (w + 1))) (n9 := ((((3147 + 203 * k) + 18 * u) + 5) + 18 * (w + 1))) (by omega) (by omega) ?_
                exact g_eqv (ihw (by omega) trivial) (rfl) (rfl) rfl rfl
              · exfalso; exact c_42 rfl
          · skip
            refine g_iload X dX4_isSame_352 5 rfl ?_
            refine g_aload X dX4_isSame_354 4 rfl ?_
            refine g_iconst X (v := 3) dX4_isSame_356 (by decide) ?_
            refine g_iload X dX4_isSame_357 6 rfl ?_
            refine g_iadd X dX4_isSame_359 ?_
            rw [show (3 : Int32) + nI u = nI (3 + u) from nI_add 3 u]
            refine g_ialdS (F := 0) X (8 + k) (3 + u) (lS_st (by omega)) (by omega) (by omega) (by decide) dX4_isSame_360 ?_
            rw [rF, rS_sh (by omega)]
            refine g_iadd X dX4_isSame_361 ?_
            refine g_istore X [(6, .int _), (0, .ref _), (1, .ref _), (3, .int _), (4, .int _), (5, .ref _), (7, .int _)] dX4_isSame_362 (by decide) rfl ?_
            refine g_aload_n X dX4_isSame_364 2 rfl rfl ?_
            refine g_iload X dX4_isSame_365 4 rfl ?_
            refine g_iload X dX4_isSame_367 6 rfl ?_
            refine g_yc (F := 0) X hE (gYI_1 (c_X3_pays l hl0 D cy ad ρ N T S d hI (nI k) (nI u)) (pay_ok (z := k) (t := u) hT hT6 hS hS8 (by omega) (by omega))) kl_X4_86 ⟨rfl, rfl, Nat.le_of_ble_eq_true rfl, Nat.le_of_ble_eq_true rfl⟩ rfl rfl (Nat.le_of_ble_eq_true rfl) dX4_isSame_369 ⟨by show _ ≤ 1000; omega, by show _ ≤ 6000; omega⟩ ?_
            refine g_aload_n X dX4_isSame_372 1 rfl rfl ?_
            refine g_iload X dX4_isSame_373 4 rfl ?_
            refine g_iload X dX4_isSame_375 6 rfl ?_
            refine g_sc (F := 0) X (c_X4_pays l D cy (aS ad) ρ S T Ln k u (by omega) (by omega) hT6 hS8 (hTu u (by omega)) (hLn u (by omega)) (Inv_pay hI (by omega) (by omega))) kl_X4_51 ⟨rfl, rfl, Nat.le_of_ble_eq_true rfl, Nat.le_of_ble_eq_true rfl⟩ rfl rfl (Nat.le_of_ble_eq_true rfl) dX4_isSame_377 ⟨by show _ ≤ 1000; omega, by show _ ≤ 6000; omega⟩ ?_
            refine g_icmp_eq X 385 dX4_isSame_380 (by decide) (fun c_43 => ?_) (fun c_43 => ?_)
            · skip
              refine g_iincN X u 7 [(7, .int _), (6, .int _), (0, .ref _), (1, .ref _), (3, .int _), (4, .int _), (5, .ref _)] 6 dX4_isSame_385 rfl (by decide) rfl ?_
              refine g_goto X 342 dX4_isSame_388 (by decide) ?_
              refine g_ls (ls' := [(0, .ref _), (1, .ref _), (3, .int _), (4, .int _), (5, .ref _), (6, .int _), (7, .int _)]) [2, 3, 4, 5, 6, 1, 0] rfl ?_
              refine g_widen (k9 := ((526 + 34 * k) + 3 * (u + 1))) (n9 := ((3147 + 203 * k) + 18 * (u + 1))) (by omega) (by omega) ?_
              exact g_eqv (ihu (by omega) trivial) (rfl) (rfl) rfl rfl
            · exfalso; exact c_43 rfl
      · skip
        have hL16 := (hLn t (by omega)).2
        refine g_aload_n X dX4_isSame_237 1 rfl rfl ?_
        refine g_iload X dX4_isSame_238 3 rfl ?_
        refine g_yc (F := 0) X hE (gYI_1 (c_X3_sound l hl0 D cy ad ρ N T S d hI (nI t)) (sou_ok (t := t) hT hT6 (by omega))) kl_X4_82 ⟨rfl, rfl, Nat.le_of_ble_eq_true rfl, Nat.le_of_ble_eq_true rfl⟩ rfl rfl (Nat.le_of_ble_eq_true rfl) dX4_isSame_240 ⟨by show _ ≤ 1000; omega, by show _ ≤ 6000; omega⟩ ?_
        refine g_aload_n X dX4_isSame_243 0 rfl rfl ?_
        refine g_iload X dX4_isSame_244 3 rfl ?_
        refine g_sc (F := 0) X (c_X4_sound l D cy (aS ad) ρ S T Ln t (by omega) hT6 (hTu t (by omega)) (hLn t (by omega))) kl_X4_42 ⟨rfl, rfl, Nat.le_of_ble_eq_true rfl, Nat.le_of_ble_eq_true rfl⟩ rfl rfl (Nat.le_of_ble_eq_true rfl) dX4_isSame_246 ⟨by show _ ≤ 1000; omega, by show _ ≤ 6000; omega⟩ ?_
        refine g_icmp_eq X 254 dX4_isSame_249 (by decide) (fun c_44 => ?_) (fun c_44 => ?_)
        · skip
          refine g_iload_n X dX4_isSame_254 2 rfl rfl ?_
          refine g_aload_n X dX4_isSame_255 0 rfl rfl ?_
          refine g_iload X dX4_isSame_256 3 rfl ?_
          refine g_sc (F := 0) X (c_X4_sound l D cy (aS ad) ρ S T Ln t (by omega) hT6 (hTu t (by omega)) (hLn t (by omega))) kl_X4_42 ⟨rfl, rfl, Nat.le_of_ble_eq_true rfl, Nat.le_of_ble_eq_true rfl⟩ rfl rfl (Nat.le_of_ble_eq_true rfl) dX4_isSame_258 ⟨by show _ ≤ 1000; omega, by show _ ≤ 6000; omega⟩ ?_
          refine g_iadd X dX4_isSame_261 ?_
          refine g_istore_n X [(3, .int _), (0, .ref _), (1, .ref _), (4, .int _)] dX4_isSame_262 rfl (by decide) rfl ?_
          refine g_iconst X (v := 0) dX4_isSame_263 (by decide) ?_
          refine g_istore X [(5, .int _), (3, .int _), (0, .ref _), (1, .ref _), (4, .int _)] dX4_isSame_264 (by decide) rfl ?_
          refine g_widen (k9 := ((((220 + 51 * t) + 3) + 0) + 0) + 3 * 0) (n9 := ((((1311 + 306 * t) + 18) + 0) + 0) + 18 * 0) (by omega) (by omega) ?_
          refine g_ls (ls' := [(0, .ref _), (1, .ref _), (3, .int _), (4, .int _), (5, .int _)]) [2, 3, 1, 4, 0] rfl ?_
          refine g_loop (fun _ => True) (fun _ => jF 0 z0 (wR S ρ ρ)) (fun k => [(0, .ref (ad 48)), (1, .ref (ad 0)), (3, .int (sumI (fun t => sndC ρ 1 t (-1)) (t + 1))), (4, .int (nI t)), (5, .int (nI k))]) (fun k => ((((220 + 51 * t) + 3) + 0) + 0) + 3 * k) (fun k => ((((1311 + 306 * t) + 18) + 0) + 0) + 18 * k) (Ln t) 0 trivial (by omega) rfl rfl rfl rfl (fun k h0k hk hIk ihk => ?_)
          refine g_iload X dX4_isSame_266 4 rfl ?_
          refine g_aload_n X dX4_isSame_268 0 rfl rfl ?_
          refine g_getr X (0 + 48 + 0) (by show 0 + 48 + 0 < 0 + (48 + (8 + S + T)); omega) 7 (by decide) ku_X4 kv_X4 kf_X4_28 rfl (gSub_fr (off := 0 + 48) sub_FS lS_tunes (by omega) (by omega)) dX4_isSame_269 ?_
          refine g_iload X dX4_isSame_272 3 rfl ?_
          refine g_aaldA X (0 + 48 + 5) t (by show 0 + 48 + 5 < 0 + (48 + (8 + S + T)); omega) (gSub_ar (off := 0 + 48) sub_FS lS_ts (by omega) (fun i hi => by omega)) rfl (by omega) (by omega) dX4_isSame_274 ?_
          rw [jF_48]
          refine g_alenS (F := 0) X (8 + S + t) lS_tu (by omega) dX4_isSame_275 ?_
          refine g_icmp_geN X k (Ln t) 308 (by omega) (by omega) dX4_isSame_276 (by decide) (fun c_45 => ?_) (fun c_45 => ?_)
          · skip
            refine g_iincN X t 4 [(4, .int _), (0, .ref _), (1, .ref _), (3, .int _), (5, .int _)] 3 dX4_isSame_308 rfl (by decide) rfl ?_
            refine g_goto X 227 dX4_isSame_311 (by decide) ?_
            refine g_ls (ls' := [(0, .ref _), (1, .ref _), (3, .int _), (4, .int _)]) [1, 2, 3, 0] rfl ?_
            refine g_widen (k9 := (220 + 51 * (t + 1))) (n9 := (1311 + 306 * (t + 1))) (by omega) (by omega) ?_
            exact g_eqv (iht (by omega) trivial) (rfl) (rfl) rfl rfl
          · skip
            refine g_aload_n X dX4_isSame_279 1 rfl rfl ?_
            refine g_iload X dX4_isSame_280 3 rfl ?_
            refine g_iload X dX4_isSame_282 4 rfl ?_
            refine g_yc (F := 0) X hE (gYI_1 (c_X3_note l hl0 D cy ad ρ N T S d hI (nI t) (nI k)) (not_ok (t := t) (k := k) hT hT6 (by omega) (hLn t (by omega)).1 (hLn t (by omega)).2 (by omega))) kl_X4_83 ⟨rfl, rfl, Nat.le_of_ble_eq_true rfl, Nat.le_of_ble_eq_true rfl⟩ rfl rfl (Nat.le_of_ble_eq_true rfl) dX4_isSame_284 ⟨by show _ ≤ 1000; omega, by show _ ≤ 6000; omega⟩ ?_
            refine g_aload_n X dX4_isSame_287 0 rfl rfl ?_
            refine g_getr X (0 + 48 + 0) (by show 0 + 48 + 0 < 0 + (48 + (8 + S + T)); omega) 7 (by decide) ku_X4 kv_X4 kf_X4_28 rfl (gSub_fr (off := 0 + 48) sub_FS lS_tunes (by omega) (by omega)) dX4_isSame_288 ?_
            refine g_iload X dX4_isSame_291 3 rfl ?_
            refine g_aaldA X (0 + 48 + 5) t (by show 0 + 48 + 5 < 0 + (48 + (8 + S + T)); omega) (gSub_ar (off := 0 + 48) sub_FS lS_ts (by omega) (fun i hi => by omega)) rfl (by omega) (by omega) dX4_isSame_293 ?_
            rw [jF_48]
            refine g_iload X dX4_isSame_294 4 rfl ?_
            refine g_ialdS (F := 0) X (8 + S + t) k lS_tu (by omega) (by omega) (by omega) dX4_isSame_296 ?_
            rw [rF, rS_tu (by omega)]
            refine g_icmp_eq X 302 dX4_isSame_297 (by decide) (fun c_46 => ?_) (fun c_46 => ?_)
            · skip
              refine g_iincN X k 5 [(5, .int _), (0, .ref _), (1, .ref _), (3, .int _), (4, .int _)] 4 dX4_isSame_302 rfl (by decide) rfl ?_
              refine g_goto X 266 dX4_isSame_305 (by decide) ?_
              refine g_ls (ls' := [(0, .ref _), (1, .ref _), (3, .int _), (4, .int _), (5, .int _)]) [1, 2, 3, 4, 0] rfl ?_
              refine g_widen (k9 := (((((220 + 51 * t) + 3) + 0) + 0) + 3 * (k + 1))) (n9 := (((((1311 + 306 * t) + 18) + 0) + 0) + 18 * (k + 1))) (by omega) (by omega) ?_
              exact g_eqv (ihk (by omega) trivial) (rfl) (rfl) rfl rfl
            · exfalso; exact c_46 rfl
        · exfalso; exact c_44 rfl
    · skip
      refine g_iconst X (v := 5) dX4_isSame_119 (by decide) ?_
      refine g_pushi X 1 rfl 5 (by decide) kac_int ⟨by show _ ≤ 1000; omega, by show _ ≤ 6000; omega⟩ dX4_isSame_120 (fun q_47 => ?_)
      obtain ⟨φ_48, sφ_48⟩ : ∃ φz, φz = xRo z0 0 := ⟨_, rfl⟩
      rw [← sφ_48]
      refine g_dup X dX4_isSame_122 rfl ?_
      refine g_iconst X (v := 0) dX4_isSame_123 (by decide) ?_
      refine g_aload_n X dX4_isSame_124 0 rfl rfl ?_
      refine g_getr X (1 + 48 + 0) (by show 1 + 48 + 0 < 1 + (48 + (8 + S + T)); omega) 3 (by decide) ku_X4 kv_X4 kf_X4_13 rfl (gSub_fr (off := 1 + 48) sub_FS lS_worn (by omega) (by omega)) dX4_isSame_125 ?_
      refine g_iload_n X dX4_isSame_128 2 rfl rfl ?_
      refine g_ialdN X (1 + 48 + 1) i (by show 1 + 48 + 1 < 1 + (48 + (8 + S + T)); omega) (gSub_ai (off := 1 + 48) (sub_FS (fa := fun _ => 0) (ad := ad)) lS_a1 (by omega)) (by omega) (by decide) dX4_isSame_129 ?_
      rw [rF, rS_1]
      refine g_iastN X 0 0 (by show 0 < 1 + (48 + (8 + S + T)); omega) (jF_ai gAI_n (by decide)) (by omega) (by decide) dX4_isSame_130 (fun ρ_49 eρ_49 => ?_)
      obtain ⟨φ_50, sφ_50, rfl⟩ := wFl eρ_49 (show 0 < 1 by decide)
      refine g_dup X dX4_isSame_131 rfl ?_
      refine g_iconst X (v := 1) dX4_isSame_132 (by decide) ?_
      refine g_aload_n X dX4_isSame_133 0 rfl rfl ?_
      refine g_getr X (1 + 48 + 0) (by show 1 + 48 + 0 < 1 + (48 + (8 + S + T)); omega) 4 (by decide) ku_X4 kv_X4 kf_X4_17 rfl (gSub_fr (off := 1 + 48) sub_FS lS_off (by omega) (by omega)) dX4_isSame_134 ?_
      refine g_iload_n X dX4_isSame_137 2 rfl rfl ?_
      refine g_ialdN X (1 + 48 + 2) i (by show 1 + 48 + 2 < 1 + (48 + (8 + S + T)); omega) (gSub_ai (off := 1 + 48) (sub_FS (fa := fun _ => 0) (ad := ad)) lS_a2 (by omega)) (by omega) (by decide) dX4_isSame_138 ?_
      rw [rF, rS_2]
      refine g_iastN X 0 1 (by show 0 < 1 + (48 + (8 + S + T)); omega) (jF_ai gAI_n (by decide)) (by omega) (by decide) dX4_isSame_139 (fun ρ_51 eρ_51 => ?_)
      obtain ⟨φ_52, sφ_52, rfl⟩ := wFl eρ_51 (show 0 < 1 by decide)
      refine g_dup X dX4_isSame_140 rfl ?_
      refine g_iconst X (v := 2) dX4_isSame_141 (by decide) ?_
      refine g_join 156 (b01 (ρ 4 i)) (fun kj_53 => ?_) ?_
      · skip
        refine g_aload_n X dX4_isSame_142 0 rfl rfl ?_
        refine g_getr X (1 + 48 + 0) (by show 1 + 48 + 0 < 1 + (48 + (8 + S + T)); omega) 5 (by decide) ku_X4 kv_X4 kf_X4_20 rfl (gSub_fr (off := 1 + 48) sub_FS lS_chirps (by omega) (by omega)) dX4_isSame_143 ?_
        refine g_iload_n X dX4_isSame_146 2 rfl rfl ?_
        refine g_zaldN X (1 + 48 + 3) i (by show 1 + 48 + 3 < 1 + (48 + (8 + S + T)); omega) (gSub_ai (off := 1 + 48) (sub_FS (fa := fun _ => 0) (ad := ad)) lS_a3 (by omega)) (by omega) (by decide) dX4_isSame_147 ?_
        rw [rF, rS_3]
        refine g_if_eq X 155 dX4_isSame_148 (by decide) (fun c_54 => ?_) (fun c_54 => ?_)
        · skip
          have cJ := c_54
          refine g_iconst X (v := 0) dX4_isSame_155 (by decide) ?_
          exact kj_53 _ ((b01_eq cJ).symm)
        · skip
          have cJ := c_54
          refine g_iconst X (v := 1) dX4_isSame_151 (by decide) ?_
          refine g_goto X 156 dX4_isSame_152 (by decide) ?_
          exact kj_53 _ ((b01_ne cJ).symm)
      refine g_iastN X 0 2 (by show 0 < 1 + (48 + (8 + S + T)); omega) (jF_ai gAI_n (by decide)) (by omega) (by decide) dX4_isSame_156 (fun ρ_55 eρ_55 => ?_)
      obtain ⟨φ_56, sφ_56, rfl⟩ := wFl eρ_55 (show 0 < 1 by decide)
      refine g_dup X dX4_isSame_157 rfl ?_
      refine g_iconst X (v := 3) dX4_isSame_158 (by decide) ?_
      refine g_aload_n X dX4_isSame_159 0 rfl rfl ?_
      refine g_iload_n X dX4_isSame_160 2 rfl rfl ?_
      refine g_sc (F := 1) X (c_X4_harm l D cy (aS ad) ρ S T Ln i (by omega)) kl_X4_38 ⟨rfl, rfl, Nat.le_of_ble_eq_true rfl, Nat.le_of_ble_eq_true rfl⟩ rfl rfl (Nat.le_of_ble_eq_true rfl) dX4_isSame_161 ⟨by show _ ≤ 1000; omega, by show _ ≤ 6000; omega⟩ ?_
      refine g_iastN X 0 3 (by show 0 < 1 + (48 + (8 + S + T)); omega) (jF_ai gAI_n (by decide)) (by omega) (by decide) dX4_isSame_164 (fun ρ_57 eρ_57 => ?_)
      obtain ⟨φ_58, sφ_58, rfl⟩ := wFl eρ_57 (show 0 < 1 by decide)
      refine g_dup X dX4_isSame_165 rfl ?_
      refine g_iconst X (v := 4) dX4_isSame_166 (by decide) ?_
      refine g_join 181 (b01 (ρ 5 i)) (fun kj_59 => ?_) ?_
      · skip
        refine g_aload_n X dX4_isSame_167 0 rfl rfl ?_
        refine g_getr X (1 + 48 + 0) (by show 1 + 48 + 0 < 1 + (48 + (8 + S + T)); omega) 6 (by decide) ku_X4 kv_X4 kf_X4_24 rfl (gSub_fr (off := 1 + 48) sub_FS lS_sang (by omega) (by omega)) dX4_isSame_168 ?_
        refine g_iload_n X dX4_isSame_171 2 rfl rfl ?_
        refine g_zaldN X (1 + 48 + 4) i (by show 1 + 48 + 4 < 1 + (48 + (8 + S + T)); omega) (gSub_ai (off := 1 + 48) (sub_FS (fa := fun _ => 0) (ad := ad)) lS_a4 (by omega)) (by omega) (by decide) dX4_isSame_172 ?_
        rw [rF, rS_4]
        refine g_if_eq X 180 dX4_isSame_173 (by decide) (fun c_60 => ?_) (fun c_60 => ?_)
        · skip
          have cJ := c_60
          refine g_iconst X (v := 0) dX4_isSame_180 (by decide) ?_
          exact kj_59 _ ((b01_eq cJ).symm)
        · skip
          have cJ := c_60
          refine g_iconst X (v := 1) dX4_isSame_176 (by decide) ?_
          refine g_goto X 181 dX4_isSame_177 (by decide) ?_
          exact kj_59 _ ((b01_ne cJ).symm)
      refine g_iastN X 0 4 (by show 0 < 1 + (48 + (8 + S + T)); omega) (jF_ai gAI_n (by decide)) (by omega) (by decide) dX4_isSame_181 (fun ρ_61 eρ_61 => ?_)
      obtain ⟨φ_62, sφ_62, rfl⟩ := wFl eρ_61 (show 0 < 1 by decide)
      have hown : ∀ w, w < 5 → φ_62 0 w = tellF ρ 1 i w := by
            intro w hw
            subst_vars
            rcases (show w = 0 ∨ w = 1 ∨ w = 2 ∨ w = 3 ∨ w = 4 by omega) with rfl | rfl | rfl | rfl | rfl
            all_goals simp [up2_e, tellF]
            all_goals rfl
      refine g_astore X [(4, .ref _), (0, .ref _), (1, .ref _), (3, .int _)] dX4_isSame_182 (by decide) rfl ?_
      refine g_iconst X (v := 0) dX4_isSame_184 (by decide) ?_
      refine g_istore X [(5, .int _), (4, .ref _), (0, .ref _), (1, .ref _), (3, .int _)] dX4_isSame_185 (by decide) rfl ?_
      refine g_widen (k9 := (((28 + 16 * i) + 1) + 0) + 3 * 0) (n9 := (((171 + 95 * i) + 5) + 0) + 18 * 0) (by omega) (by omega) ?_
      refine g_ls (ls' := [(0, .ref _), (1, .ref _), (3, .int _), (4, .ref _), (5, .int _)]) [2, 3, 4, 1, 0] rfl ?_
      refine g_loop (fun _ => True) (fun _ => jF 1 φ_62 (wR S ρ ρ)) (fun v => [(0, .ref (ad 48)), (1, .ref (ad 0)), (3, .int (nI i)), (4, .ref q_47), (5, .int (nI v))]) (fun v => (((28 + 16 * i) + 1) + 0) + 3 * v) (fun v => (((171 + 95 * i) + 5) + 0) + 18 * v) 5 0 trivial (by omega) rfl rfl rfl rfl (fun v h0v hv hIv ihv => ?_)
      refine g_iload X dX4_isSame_187 4 rfl ?_
      refine g_iconst X (v := 5) dX4_isSame_189 (by decide) ?_
      refine g_icmp_geN X v 5 216 (by omega) (by omega) dX4_isSame_190 (by decide) (fun c_63 => ?_) (fun c_63 => ?_)
      · skip
        refine g_popF ?_
        refine g_0F ?_
        refine g_F0 (fa := fun _ => 0) (fz := fun _ _ => .inr (0, [])) (φ := z0) ?_
        refine g_iincN X i 3 [(3, .int _), (0, .ref _), (1, .ref _), (4, .ref _), (5, .int _)] 2 dX4_isSame_216 rfl (by decide) rfl ?_
        refine g_goto X 113 dX4_isSame_219 (by decide) ?_
        refine g_ls (ls' := [(0, .ref _), (1, .ref _), (3, .int _)]) [1, 2, 0] rfl ?_
        refine g_widen (k9 := (28 + 16 * (i + 1))) (n9 := (171 + 95 * (i + 1))) (by omega) (by omega) ?_
        exact g_eqv (ihi (by omega) trivial) (rfl) (rfl) rfl rfl
      · skip
        refine g_aload_n X dX4_isSame_193 1 rfl rfl ?_
        refine g_iload_n X dX4_isSame_194 2 rfl rfl ?_
        refine g_iload X dX4_isSame_195 4 rfl ?_
        refine g_yc (F := 1) X hE (gYI_1 (c_X3_pipe l hl0 D cy ad ρ N T S d hI (nI i) (nI v)) (pip_ok (i := i) (w := v) (by omega) (by omega))) kl_X4_79 ⟨rfl, rfl, Nat.le_of_ble_eq_true rfl, Nat.le_of_ble_eq_true rfl⟩ rfl rfl (Nat.le_of_ble_eq_true rfl) dX4_isSame_197 ⟨by show _ ≤ 1000; omega, by show _ ≤ 6000; omega⟩ ?_
        refine g_aload X dX4_isSame_200 3 rfl ?_
        refine g_iload X dX4_isSame_202 4 rfl ?_
        refine g_ialdN X 0 v (by show 0 < 1 + (48 + (8 + S + T)); omega) (jF_ai gAI_n (by decide)) (by omega) (by decide) dX4_isSame_204 ?_
        rw [jF_lo (show 0 < 1 by decide)]
        rw [hown v (by omega)]
        refine g_icmp_eq X 210 dX4_isSame_205 (by decide) (fun c_64 => ?_) (fun c_64 => ?_)
        · skip
          refine g_iincN X v 5 [(5, .int _), (0, .ref _), (1, .ref _), (3, .int _), (4, .ref _)] 4 dX4_isSame_210 rfl (by decide) rfl ?_
          refine g_goto X 187 dX4_isSame_213 (by decide) ?_
          refine g_ls (ls' := [(0, .ref _), (1, .ref _), (3, .int _), (4, .ref _), (5, .int _)]) [1, 2, 3, 4, 0] rfl ?_
          refine g_widen (k9 := ((((28 + 16 * i) + 1) + 0) + 3 * (v + 1))) (n9 := ((((171 + 95 * i) + 5) + 0) + 18 * (v + 1))) (by omega) (by omega) ?_
          exact g_eqv (ihv (by omega) trivial) (rfl) (rfl) rfl rfl
        · exfalso; exact c_64 rfl
  · skip
    refine g_aload_n X dX4_isSame_92 1 rfl rfl ?_
    refine g_iload_n X dX4_isSame_93 3 rfl rfl ?_
    refine g_yc (F := 1) X hE (gYI_1 (c_X3_count l hl0 D cy ad ρ N T S d hI (nI i)) (cou_ok (w := i) (by omega))) kl_X4_74 ⟨rfl, rfl, Nat.le_of_ble_eq_true rfl, Nat.le_of_ble_eq_true rfl⟩ rfl rfl (Nat.le_of_ble_eq_true rfl) dX4_isSame_94 ⟨by show _ ≤ 1000; omega, by show _ ≤ 6000; omega⟩ ?_
    refine g_aload_n X dX4_isSame_97 2 rfl rfl ?_
    refine g_iload_n X dX4_isSame_98 3 rfl rfl ?_
    refine g_ialdN X 0 i (by show 0 < 1 + (48 + (8 + S + T)); omega) (jF_ai gAI_n (by decide)) (by omega) (by decide) dX4_isSame_99 ?_
    rw [jF_lo (show 0 < 1 by decide)]
    rw [hdue i (by omega)]
    refine g_icmp_eq X 105 dX4_isSame_100 (by decide) (fun c_65 => ?_) (fun c_65 => ?_)
    · skip
      refine g_iincN X i 3 [(3, .int _), (0, .ref _), (1, .ref _), (2, .ref _)] 3 dX4_isSame_105 rfl (by decide) rfl ?_
      refine g_goto X 86 dX4_isSame_108 (by decide) ?_
      refine g_ls (ls' := [(0, .ref _), (1, .ref _), (2, .ref _), (3, .int _)]) [1, 2, 3, 0] rfl ?_
      refine g_widen (k9 := (((((0 + 1) + 0) + 0) + 0) + 3 * (i + 1))) (n9 := (((((0 + 9) + 0) + 0) + 0) + 18 * (i + 1))) (by omega) (by omega) ?_
      exact g_eqv (ihi (by omega) trivial) (rfl) (rfl) rfl rfl
    · exfalso; exact c_65 rfl
