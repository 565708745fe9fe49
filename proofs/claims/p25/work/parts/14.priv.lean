set_option maxHeartbeats 1000000 in
set_option maxRecDepth 100000 in
theorem c_X3_checkTune (l : Launch) (hl0 : l.stackTraces = false) (D : va_G) (cy : Nat → ClassId) (ad : Nat → Nat) (ρ : Nat → Nat → Int32) (x : Int32) : gXV l yX3_checkTune cX3_checkTune 2 none { frames := 6, cells := 1, slots := 6, locals := 90 } D cy 48 ad (cC ad cy) [.ref (ad 0), .int x] ρ (fun ρ1 => ρ1 = ρ ∧ inb x (ρ 0 5)) (fun E => E = "java/lang/IndexOutOfBoundsException" ∧ ¬ inb x (ρ 0 5)) 1 6 := by
  refine gXV_of (ls := [(0, .ref (ad 0)), (1, .int x)]) RX3 rfl (by decide +kernel) (Nat.le_of_ble_eq_true rfl) rfl ?_
  intro p e s m args below meth c A X hE hxt hr hlk
  refine g_iload_n X dX3_checkTune_0 1 rfl rfl ?_
  refine g_if_lt X 12 dX3_checkTune_1 (by decide) (fun c_1 => ?_) (fun c_1 => ?_)
  · skip
    exact g_throw X hE hl0 (names := ["java/lang/RuntimeException", "java/lang/Exception"]) (by decide +kernel) (by decide +kernel) kk_X3_67 ki_IOB kst_200 kh_IOB_71 kh_IOB_71g dX3_checkTune_12 dX3_checkTune_15 dX3_checkTune_16 dX3_checkTune_18 dX3_checkTune_21 hxt ⟨Nat.le_of_ble_eq_true rfl, Nat.le_of_ble_eq_true rfl, Nat.le_of_ble_eq_true rfl, Nat.le_of_ble_eq_true rfl⟩ hlk (⟨rfl, fun h => h.1 c_1⟩) (by omega) (by omega)
  · skip
    refine g_iload_n X dX3_checkTune_4 1 rfl rfl ?_
    refine g_aload_n X dX3_checkTune_5 0 rfl rfl ?_
    refine g_geti X 0 (by omega) 5 (by decide) ku_X3 kv_X3 kf_X3_41 rfl lC_o_tuneCount dX3_checkTune_6 ?_
    refine g_icmp_lt X 22 dX3_checkTune_9 (by decide) (fun c_2 => ?_) (fun c_2 => ?_)
    · skip
      exact g_xvret X hr hlk (by omega) (by omega) dX3_checkTune_22 (⟨rfl, c_1, c_2⟩)
    · skip
      exact g_throw X hE hl0 (names := ["java/lang/RuntimeException", "java/lang/Exception"]) (by decide +kernel) (by decide +kernel) kk_X3_67 ki_IOB kst_200 kh_IOB_71 kh_IOB_71g dX3_checkTune_12 dX3_checkTune_15 dX3_checkTune_16 dX3_checkTune_18 dX3_checkTune_21 hxt ⟨Nat.le_of_ble_eq_true rfl, Nat.le_of_ble_eq_true rfl, Nat.le_of_ble_eq_true rfl, Nat.le_of_ble_eq_true rfl⟩ hlk (⟨rfl, fun h => c_2 h.2⟩) (by omega) (by omega)

set_option maxHeartbeats 1000000 in
set_option maxRecDepth 100000 in
theorem c_X3_checkStreet (l : Launch) (hl0 : l.stackTraces = false) (D : va_G) (cy : Nat → ClassId) (ad : Nat → Nat) (ρ : Nat → Nat → Int32) (x : Int32) : gXV l yX3_checkStreet cX3_checkStreet 2 none { frames := 6, cells := 1, slots := 6, locals := 90 } D cy 48 ad (cC ad cy) [.ref (ad 0), .int x] ρ (fun ρ1 => ρ1 = ρ ∧ inb x (ρ 0 6)) (fun E => E = "java/lang/IndexOutOfBoundsException" ∧ ¬ inb x (ρ 0 6)) 1 6 := by
  refine gXV_of (ls := [(0, .ref (ad 0)), (1, .int x)]) RX3 rfl (by decide +kernel) (Nat.le_of_ble_eq_true rfl) rfl ?_
  intro p e s m args below meth c A X hE hxt hr hlk
  refine g_iload_n X dX3_checkStreet_0 1 rfl rfl ?_
  refine g_if_lt X 12 dX3_checkStreet_1 (by decide) (fun c_1 => ?_) (fun c_1 => ?_)
  · skip
    exact g_throw X hE hl0 (names := ["java/lang/RuntimeException", "java/lang/Exception"]) (by decide +kernel) (by decide +kernel) kk_X3_67 ki_IOB kst_202 kh_IOB_71 kh_IOB_71g dX3_checkStreet_12 dX3_checkStreet_15 dX3_checkStreet_16 dX3_checkStreet_18 dX3_checkStreet_21 hxt ⟨Nat.le_of_ble_eq_true rfl, Nat.le_of_ble_eq_true rfl, Nat.le_of_ble_eq_true rfl, Nat.le_of_ble_eq_true rfl⟩ hlk (⟨rfl, fun h => h.1 c_1⟩) (by omega) (by omega)
  · skip
    refine g_iload_n X dX3_checkStreet_4 1 rfl rfl ?_
    refine g_aload_n X dX3_checkStreet_5 0 rfl rfl ?_
    refine g_geti X 0 (by omega) 6 (by decide) ku_X3 kv_X3 kf_X3_83 rfl lC_o_streetCount dX3_checkStreet_6 ?_
    refine g_icmp_lt X 22 dX3_checkStreet_9 (by decide) (fun c_2 => ?_) (fun c_2 => ?_)
    · skip
      exact g_xvret X hr hlk (by omega) (by omega) dX3_checkStreet_22 (⟨rfl, c_1, c_2⟩)
    · skip
      exact g_throw X hE hl0 (names := ["java/lang/RuntimeException", "java/lang/Exception"]) (by decide +kernel) (by decide +kernel) kk_X3_67 ki_IOB kst_202 kh_IOB_71 kh_IOB_71g dX3_checkStreet_12 dX3_checkStreet_15 dX3_checkStreet_16 dX3_checkStreet_18 dX3_checkStreet_21 hxt ⟨Nat.le_of_ble_eq_true rfl, Nat.le_of_ble_eq_true rfl, Nat.le_of_ble_eq_true rfl, Nat.le_of_ble_eq_true rfl⟩ hlk (⟨rfl, fun h => c_2 h.2⟩) (by omega) (by omega)

set_option maxHeartbeats 1000000 in
set_option maxRecDepth 100000 in
theorem c_X3_checkPipe (l : Launch) (hl0 : l.stackTraces = false) (D : va_G) (cy : Nat → ClassId) (ad : Nat → Nat) (ρ : Nat → Nat → Int32) (x : Int32) : gXV l yX3_checkPipe cX3_checkPipe 1 none { frames := 6, cells := 1, slots := 6, locals := 90 } D cy 48 ad (cC ad cy) [.int x] ρ (fun ρ1 => ρ1 = ρ ∧ inb x 12) (fun E => E = "java/lang/IndexOutOfBoundsException" ∧ ¬ inb x 12) 1 6 := by
  refine gXV_of (ls := [(0, .int x)]) RX3 rfl (by decide +kernel) (Nat.le_of_ble_eq_true rfl) rfl ?_
  intro p e s m args below meth c A X hE hxt hr hlk
  refine g_iload_n X dX3_checkPipe_0 0 rfl rfl ?_
  refine g_if_lt X 10 dX3_checkPipe_1 (by decide) (fun c_1 => ?_) (fun c_1 => ?_)
  · skip
    exact g_throw X hE hl0 (names := ["java/lang/RuntimeException", "java/lang/Exception"]) (by decide +kernel) (by decide +kernel) kk_X3_67 ki_IOB kst_204 kh_IOB_71 kh_IOB_71g dX3_checkPipe_10 dX3_checkPipe_13 dX3_checkPipe_14 dX3_checkPipe_16 dX3_checkPipe_19 hxt ⟨Nat.le_of_ble_eq_true rfl, Nat.le_of_ble_eq_true rfl, Nat.le_of_ble_eq_true rfl, Nat.le_of_ble_eq_true rfl⟩ hlk (⟨rfl, fun h => h.1 c_1⟩) (by omega) (by omega)
  · skip
    refine g_iload_n X dX3_checkPipe_4 0 rfl rfl ?_
    refine g_bipush X (v := 12) dX3_checkPipe_5 (by decide) ?_
    refine g_icmp_lt X 20 dX3_checkPipe_7 (by decide) (fun c_2 => ?_) (fun c_2 => ?_)
    · skip
      exact g_xvret X hr hlk (by omega) (by omega) dX3_checkPipe_20 (⟨rfl, c_1, c_2⟩)
    · skip
      exact g_throw X hE hl0 (names := ["java/lang/RuntimeException", "java/lang/Exception"]) (by decide +kernel) (by decide +kernel) kk_X3_67 ki_IOB kst_204 kh_IOB_71 kh_IOB_71g dX3_checkPipe_10 dX3_checkPipe_13 dX3_checkPipe_14 dX3_checkPipe_16 dX3_checkPipe_19 hxt ⟨Nat.le_of_ble_eq_true rfl, Nat.le_of_ble_eq_true rfl, Nat.le_of_ble_eq_true rfl, Nat.le_of_ble_eq_true rfl⟩ hlk (⟨rfl, fun h => c_2 h.2⟩) (by omega) (by omega)

set_option maxHeartbeats 1000000 in
set_option maxRecDepth 100000 in
theorem c_X3_checkPermits (l : Launch) (hl0 : l.stackTraces = false) (D : va_G) (cy : Nat → ClassId) (ad : Nat → Nat) (ρ : Nat → Nat → Int32) (x : Int32) : gXV l yX3_checkPermits cX3_checkPermits 1 none { frames := 6, cells := 1, slots := 6, locals := 90 } D cy 48 ad (cC ad cy) [.int x] ρ (fun ρ1 => ρ1 = ρ ∧ inl x 127) (fun E => E = "java/lang/IllegalArgumentException" ∧ ¬ inl x 127) 1 6 := by
  refine gXV_of (ls := [(0, .int x)]) RX3 rfl (by decide +kernel) (Nat.le_of_ble_eq_true rfl) rfl ?_
  intro p e s m args below meth c A X hE hxt hr hlk
  refine g_iload_n X dX3_checkPermits_0 0 rfl rfl ?_
  refine g_if_lt X 10 dX3_checkPermits_1 (by decide) (fun c_1 => ?_) (fun c_1 => ?_)
  · skip
    exact g_throw X hE hl0 (names := ["java/lang/RuntimeException", "java/lang/Exception"]) (by decide +kernel) (by decide +kernel) kk_X3_75 ki_IAE kst_206 kh_IAE_79 kh_IAE_79g dX3_checkPermits_10 dX3_checkPermits_13 dX3_checkPermits_14 dX3_checkPermits_16 dX3_checkPermits_19 hxt ⟨Nat.le_of_ble_eq_true rfl, Nat.le_of_ble_eq_true rfl, Nat.le_of_ble_eq_true rfl, Nat.le_of_ble_eq_true rfl⟩ hlk (⟨rfl, fun h => h.1 c_1⟩) (by omega) (by omega)
  · skip
    refine g_iload_n X dX3_checkPermits_4 0 rfl rfl ?_
    refine g_bipush X (v := 127) dX3_checkPermits_5 (by decide) ?_
    refine g_icmp_le X 20 dX3_checkPermits_7 (by decide) (fun c_2 => ?_) (fun c_2 => ?_)
    · skip
      exact g_xvret X hr hlk (by omega) (by omega) dX3_checkPermits_20 (⟨rfl, c_1, c_2⟩)
    · skip
      exact g_throw X hE hl0 (names := ["java/lang/RuntimeException", "java/lang/Exception"]) (by decide +kernel) (by decide +kernel) kk_X3_75 ki_IAE kst_206 kh_IAE_79 kh_IAE_79g dX3_checkPermits_10 dX3_checkPermits_13 dX3_checkPermits_14 dX3_checkPermits_16 dX3_checkPermits_19 hxt ⟨Nat.le_of_ble_eq_true rfl, Nat.le_of_ble_eq_true rfl, Nat.le_of_ble_eq_true rfl, Nat.le_of_ble_eq_true rfl⟩ hlk (⟨rfl, fun h => c_2 h.2⟩) (by omega) (by omega)

set_option maxHeartbeats 1000000 in
set_option maxRecDepth 100000 in
theorem c_X3_checkNights (l : Launch) (hl0 : l.stackTraces = false) (D : va_G) (cy : Nat → ClassId) (ad : Nat → Nat) (ρ : Nat → Nat → Int32) (x : Int32) : gXV l yX3_checkNights cX3_checkNights 1 none { frames := 6, cells := 1, slots := 6, locals := 90 } D cy 48 ad (cC ad cy) [.int x] ρ (fun ρ1 => ρ1 = ρ ∧ (¬ x < 1 ∧ x ≤ 60)) (fun E => E = "java/lang/IllegalArgumentException" ∧ ¬ (¬ x < 1 ∧ x ≤ 60)) 1 6 := by
  refine gXV_of (ls := [(0, .int x)]) RX3 rfl (by decide +kernel) (Nat.le_of_ble_eq_true rfl) rfl ?_
  intro p e s m args below meth c A X hE hxt hr hlk
  refine g_iload_n X dX3_checkNights_0 0 rfl rfl ?_
  refine g_iconst X (v := 1) dX3_checkNights_1 (by decide) ?_
  refine g_icmp_lt X 11 dX3_checkNights_2 (by decide) (fun c_1 => ?_) (fun c_1 => ?_)
  · skip
    exact g_throw X hE hl0 (names := ["java/lang/RuntimeException", "java/lang/Exception"]) (by decide +kernel) (by decide +kernel) kk_X3_75 ki_IAE kst_208 kh_IAE_79 kh_IAE_79g dX3_checkNights_11 dX3_checkNights_14 dX3_checkNights_15 dX3_checkNights_17 dX3_checkNights_20 hxt ⟨Nat.le_of_ble_eq_true rfl, Nat.le_of_ble_eq_true rfl, Nat.le_of_ble_eq_true rfl, Nat.le_of_ble_eq_true rfl⟩ hlk (⟨rfl, fun h => h.1 c_1⟩) (by omega) (by omega)
  · skip
    refine g_iload_n X dX3_checkNights_5 0 rfl rfl ?_
    refine g_bipush X (v := 60) dX3_checkNights_6 (by decide) ?_
    refine g_icmp_le X 21 dX3_checkNights_8 (by decide) (fun c_2 => ?_) (fun c_2 => ?_)
    · skip
      exact g_xvret X hr hlk (by omega) (by omega) dX3_checkNights_21 (⟨rfl, c_1, c_2⟩)
    · skip
      exact g_throw X hE hl0 (names := ["java/lang/RuntimeException", "java/lang/Exception"]) (by decide +kernel) (by decide +kernel) kk_X3_75 ki_IAE kst_208 kh_IAE_79 kh_IAE_79g dX3_checkNights_11 dX3_checkNights_14 dX3_checkNights_15 dX3_checkNights_17 dX3_checkNights_20 hxt ⟨Nat.le_of_ble_eq_true rfl, Nat.le_of_ble_eq_true rfl, Nat.le_of_ble_eq_true rfl, Nat.le_of_ble_eq_true rfl⟩ hlk (⟨rfl, fun h => c_2 h.2⟩) (by omega) (by omega)

set_option maxHeartbeats 1000000 in
set_option maxRecDepth 100000 in
theorem c_X3_payNow (l : Launch) (D : va_G) (cy : Nat → ClassId) (ad : Nat → Nat) (ρ : Nat → Nat → Int32) (z t : Nat) (hs : z < 8) (ht : t < 6) (hpo : payOK ρ z t (sndC ρ 1 t (-1))) : gMI l yX3_payNow cX3_payNow 3 (some .int) { frames := 4, cells := 0, slots := 0, locals := 87 } D cy 48 ad (cC ad cy) [.ref (ad 0), .int (nI z), .int (nI t)] ρ (fun r ρ1 => r = pyN ρ z t ∧ ρ1 = ρ) 0 0 := by
  refine gMI_of (ls := [(0, .ref (ad 0)), (1, .int (nI z)), (2, .int (nI t))]) RX3 rfl (by decide +kernel) (Nat.le_of_ble_eq_true rfl) rfl ?_
  intro p e s m args below meth c A X hr hlk hnm
  refine g_aload_n X dX3_payNow_0 0 rfl rfl ?_
  refine g_getr X 0 (by omega) 3 (by decide) ku_X3 kv_X3 kf_X3_28 rfl lC_o_streets dX3_payNow_1 ?_
  refine g_iload_n X dX3_payNow_4 1 rfl rfl ?_
  refine g_aaldN X 12 z 3 (by omega) lC_streets rfl (by omega) (by decide) dX3_payNow_5 ?_
  refine g_iload_n X dX3_payNow_6 2 rfl rfl ?_
  refine g_aload_n X dX3_payNow_7 0 rfl rfl ?_
  refine g_getr X 0 (by omega) 2 (by decide) ku_X3 kv_X3 kf_X3_21 rfl lC_o_tunes dX3_payNow_8 ?_
  refine g_iload_n X dX3_payNow_11 2 rfl rfl ?_
  refine g_aaldN X 11 t 2 (by omega) lC_tunes rfl (by omega) (by decide) dX3_payNow_12 ?_
  refine g_aload_n X dX3_payNow_13 0 rfl rfl ?_
  refine g_getr X 0 (by omega) 0 (by decide) ku_X3 kv_X3 kf_X3_10 rfl lC_o_pipes dX3_payNow_14 ?_
  refine g_mcallVi X (14 + 3 * t) (c_X2_soundOf l D cy ad ρ t 1 (by omega) (Or.inl rfl)) kl_X3_156 ⟨rfl, rfl, Nat.le_of_ble_eq_true rfl, Nat.le_of_ble_eq_true rfl⟩ (by omega) (lC_T (by omega)) kv_X2 rfl rfl (Nat.le_of_ble_eq_true rfl) dX3_payNow_17 ⟨Nat.le_of_ble_eq_true rfl, Nat.le_of_ble_eq_true rfl⟩ (fun r_2 ρ_1 h_3 => ?_)
  obtain ⟨er_2, e9⟩ := h_3
  rw [e9, er_2]
  clear e9
  refine g_mcallVi X (32 + 2 * z) (c_X1_payFor l D cy ad ρ z t _ (by omega) (by omega) hpo) kl_X3_215 ⟨rfl, rfl, Nat.le_of_ble_eq_true rfl, Nat.le_of_ble_eq_true rfl⟩ (by omega) (lC_S (by omega)) kv_X1 rfl rfl (Nat.le_of_ble_eq_true rfl) dX3_payNow_20 ⟨Nat.le_of_ble_eq_true rfl, Nat.le_of_ble_eq_true rfl⟩ (fun r_5 ρ_4 h_6 => ?_)
  obtain ⟨er_5, e9⟩ := h_6
  rw [e9, er_5]
  clear e9
  exact g_iret X hr hlk (by omega) (by omega) dX3_payNow_23 (⟨rfl, rfl⟩)

set_option maxHeartbeats 1000000 in
set_option maxRecDepth 100000 in
theorem c_X3_payFine (l : Launch) (D : va_G) (cy : Nat → ClassId) (ad : Nat → Nat) (ρ : Nat → Nat → Int32)  : gMI l yX3_payFine cX3_payFine 2 (some .int) { frames := 1, cells := 0, slots := 0, locals := 21 } D cy 48 ad (cC ad cy) [.ref (ad 0)] ρ (fun r ρ1 => r = mnI 10 (ρ 0 8) ∧ ρ1 = finR ρ) 0 0 := by
  refine gMI_of (ls := [(0, .ref (ad 0))]) RX3 rfl (by decide +kernel) (Nat.le_of_ble_eq_true rfl) rfl ?_
  intro p e s m args below meth c A X hr hlk hnm
  refine g_bipush X (v := 10) dX3_payFine_0 (by decide) ?_
  refine g_aload_n X dX3_payFine_2 0 rfl rfl ?_
  refine g_geti X 0 (by omega) 8 (by decide) ku_X3 kv_X3 kf_X3_37 rfl lC_o_coins dX3_payFine_3 ?_
  refine g_mmin X km_X3_218 kt_mmin ki_math kc_mmin ⟨Nat.le_of_ble_eq_true rfl, Nat.le_of_ble_eq_true rfl, by omega, by omega⟩ dX3_payFine_6 ?_
  refine g_istore_n X [(1, .int _), (0, .ref _)] dX3_payFine_9 rfl (by decide) rfl ?_
  refine g_aload_n X dX3_payFine_10 1 rfl rfl ?_
  refine g_dup X dX3_payFine_11 rfl ?_
  refine g_geti X 0 (by omega) 8 (by decide) ku_X3 kv_X3 kf_X3_37 rfl lC_o_coins dX3_payFine_12 ?_
  rw [show ρ 0 8 = ρ 0 8 from rfl]
  refine g_iload_n X dX3_payFine_15 0 rfl rfl ?_
  refine g_isub X dX3_payFine_16 ?_
  refine g_puti X 0 (by omega) 8 (by decide) ku_X3 kv_X3 kf_X3_37 rfl tyX3 tyX3_ok nmX3 rfl (by decide +kernel) lC_o_coins dX3_payFine_17 (fun ρ_1 eρ_1 => ?_)
  refine g_aload_n X dX3_payFine_20 1 rfl rfl ?_
  refine g_dup X dX3_payFine_21 rfl ?_
  refine g_geti X 0 (by omega) 9 (by decide) ku_X3 kv_X3 kf_X3_221 rfl lC_o_fines dX3_payFine_22 ?_
  rw [show ρ_1 0 9 = ρ 0 9 by subst_vars; rw [up2_j (by decide)]]
  refine g_iload_n X dX3_payFine_25 0 rfl rfl ?_
  refine g_iadd X dX3_payFine_26 ?_
  refine g_puti X 0 (by omega) 9 (by decide) ku_X3 kv_X3 kf_X3_221 rfl tyX3 tyX3_ok nmX3 rfl (by decide +kernel) lC_o_fines dX3_payFine_27 (fun ρ_2 eρ_2 => ?_)
  refine g_iload_n X dX3_payFine_30 0 rfl rfl ?_
  exact g_iret X hr hlk (by omega) (by omega) dX3_payFine_31 (by subst_vars; exact ⟨rfl, rfl⟩)

set_option maxHeartbeats 1000000 in
set_option maxRecDepth 100000 in
theorem c_X3_passNights (l : Launch) (D : va_G) (cy : Nat → ClassId) (ad : Nat → Nat) (ρ : Nat → Nat → Int32) (b n d : Nat) (hb : isP b) (hd : ρ 0 7 = nI d) (hdn : d + n < 2 ^ 31) : gMI l yX3_passNights cX3_passNights 5 (some .int) { frames := 3, cells := 0, slots := 0, locals := 66 } D cy 48 ad (cC ad cy) [.ref (ad 0), .ref (ad b), .int (nI n)] ρ (fun r ρ1 => r = csF ρ b d n ∧ ρ1 = nsR ρ b d n) 0 0 := by
  refine gMI_of (ls := [(0, .ref (ad 0)), (1, .ref (ad b)), (2, .int (nI n))]) RX3 rfl (by decide +kernel) (Nat.le_of_ble_eq_true rfl) rfl ?_
  intro p e s m args below meth c A X hr hlk hnm
  have hb9 := isP_lt hb
  have hb6 : b ≤ 6 := by rcases hb with rfl | rfl <;> decide
  refine g_iconst X (v := 0) dX3_passNights_0 (by decide) ?_
  refine g_istore_n X [(3, .int _), (0, .ref _), (1, .ref _), (2, .int _)] dX3_passNights_1 rfl (by decide) rfl ?_
  refine g_iconst X (v := 0) dX3_passNights_2 (by decide) ?_
  refine g_istore X [(4, .int _), (3, .int _), (0, .ref _), (1, .ref _), (2, .int _)] dX3_passNights_3 (by decide) rfl ?_
  refine g_ls (ls' := [(0, .ref _), (1, .ref _), (2, .int _), (3, .int _), (4, .int _)]) [2, 3, 4, 1, 0] rfl ?_
  refine g_loop (fun _ => True) (fun i => nsR ρ b d i) (fun i => [(0, .ref (ad 0)), (1, .ref (ad b)), (2, .int (nI n)), (3, .int (csF ρ b d i)), (4, .int (nI i))]) (fun _ => 0) (fun _ => 0) n 0 trivial (by omega) rfl rfl rfl rfl (fun i h0i hi hIi ihi => ?_)
  obtain ⟨ρa, eρa⟩ : ∃ ρz, ρz = nsR ρ b d i := ⟨_, rfl⟩
  rw [← eρa]
  have hda : ρa 0 7 = nI d := by rw [eρa, nsR_out (k := 0) (by omega)]; exact hd
  have hdm : ∀ j, ρa 13 j = ρ 13 j := fun j => by rw [eρa, nsR_out (k := 13) (by omega)]
  refine g_iload X dX3_passNights_5 4 rfl ?_
  refine g_iload_n X dX3_passNights_7 2 rfl rfl ?_
  refine g_icmp_geN X i n 39 (by omega) (by omega) dX3_passNights_8 (by decide) (fun c_1 => ?_) (fun c_1 => ?_)
  · skip
    refine g_iload_n X dX3_passNights_39 3 rfl rfl ?_
    exact g_iret X hr hlk (by omega) (by omega) dX3_passNights_40 (by subst_vars; rw [show i = n by omega]; exact ⟨rfl, rfl⟩)
  · skip
    refine g_iload_n X dX3_passNights_11 3 rfl rfl ?_
    refine g_aload_n X dX3_passNights_12 1 rfl rfl ?_
    refine g_aload_n X dX3_passNights_13 0 rfl rfl ?_
    refine g_getr X 0 (by omega) 4 (by decide) ku_X3 kv_X3 kf_X3_33 rfl lC_o_damp dX3_passNights_14 ?_
    refine g_aload_n X dX3_passNights_17 0 rfl rfl ?_
    refine g_geti X 0 (by omega) 7 (by decide) ku_X3 kv_X3 kf_X3_103 rfl lC_o_day dX3_passNights_18 ?_
    rw [hda]
    refine g_iload X dX3_passNights_21 4 rfl ?_
    refine g_iadd X dX3_passNights_23 ?_
    rw [nI_add]
    refine g_mcallSi X (c_X3_weekdayOf l D cy ad ρa (d + i) (by omega)) kl_X3_106 ⟨rfl, rfl, Nat.le_of_ble_eq_true rfl, Nat.le_of_ble_eq_true rfl⟩ rfl rfl (Nat.le_of_ble_eq_true rfl) dX3_passNights_24 ⟨Nat.le_of_ble_eq_true rfl, Nat.le_of_ble_eq_true rfl⟩ (fun r_3 ρ_2 h_4 => ?_)
    obtain ⟨er_3, e9⟩ := h_4
    rw [e9, er_3]
    clear e9
    refine g_ialdN X 13 ((d + i) % 7) (by omega) lC_damp (by omega) (by decide) dX3_passNights_27 ?_
    rw [hdm]
    refine g_mcallVi X b (c_X0_passNight l D cy ad ρa b _ hb) kl_X3_224 ⟨rfl, rfl, Nat.le_of_ble_eq_true rfl, Nat.le_of_ble_eq_true rfl⟩ (by omega) (lC_P hb) kv_X0 rfl rfl (Nat.le_of_ble_eq_true rfl) dX3_passNights_28 ⟨Nat.le_of_ble_eq_true rfl, Nat.le_of_ble_eq_true rfl⟩ (fun r_6 ρ_5 h_7 => ?_)
    obtain ⟨er_6, eρ_5⟩ := h_7
    refine g_iadd X dX3_passNights_31 ?_
    refine g_istore_n X [(3, .int _), (0, .ref _), (1, .ref _), (2, .int _), (4, .int _)] dX3_passNights_32 rfl (by decide) rfl ?_
    refine g_iincN X i 4 [(4, .int _), (3, .int _), (0, .ref _), (1, .ref _), (2, .int _)] 4 dX3_passNights_33 rfl (by decide) rfl ?_
    refine g_goto X 5 dX3_passNights_36 (by decide) ?_
    refine g_ls (ls' := [(0, .ref _), (1, .ref _), (2, .int _), (3, .int _), (4, .int _)]) [2, 3, 4, 1, 0] rfl ?_
    exact g_eqv (ihi (by omega) trivial) (by subst_vars; rfl) (by subst_vars; rfl) rfl rfl

set_option maxHeartbeats 1000000 in
set_option maxRecDepth 100000 in
theorem c_X3_countNow (l : Launch) (D : va_G) (cy : Nat → ClassId) (ad : Nat → Nat) (ρ : Nat → Nat → Int32) (w d : Nat) (hw : w < 9) (hd : ρ 0 7 = nI d) (hd31 : d < 2 ^ 31) : gMI l yX3_countNow cX3_countNow 2 (some .int) { frames := 3, cells := 0, slots := 0, locals := 64 } D cy 48 ad (cC ad cy) [.ref (ad 0), .int (nI w)] ρ (fun r ρ1 => r = countF ρ w ∧ ρ1 = ρ) 0 0 := by
  refine gMI_of (ls := [(0, .ref (ad 0)), (1, .int (nI w))]) RX3 rfl (by decide +kernel) (Nat.le_of_ble_eq_true rfl) rfl ?_
  intro p e s m args below meth c A X hr hlk hnm
  refine g_iload_n X dX3_countNow_0 1 rfl rfl ?_
  rcases (show w = 0 ∨ w = 1 ∨ w = 2 ∨ w = 3 ∨ w = 4 ∨ w = 5 ∨ w = 6 ∨ w = 7 ∨ w = 8 by omega) with rfl | rfl | rfl | rfl | rfl | rfl | rfl | rfl | rfl
  · skip
    refine g_tableIn X 52 dX3_countNow_1 (by decide) (by decide) rfl (by decide) ?_
    refine g_aload_n X dX3_countNow_52 0 rfl rfl ?_
    refine g_geti X 0 (by omega) 7 (by decide) ku_X3 kv_X3 kf_X3_103 rfl lC_o_day dX3_countNow_53 ?_
    exact g_iret X hr hlk (by omega) (by omega) dX3_countNow_56 (⟨rfl, rfl⟩)
  · skip
    refine g_tableIn X 57 dX3_countNow_1 (by decide) (by decide) rfl (by decide) ?_
    refine g_aload_n X dX3_countNow_57 0 rfl rfl ?_
    refine g_geti X 0 (by omega) 7 (by decide) ku_X3 kv_X3 kf_X3_103 rfl lC_o_day dX3_countNow_58 ?_
    rw [hd]
    refine g_mcallSi X (c_X3_weekdayOf l D cy ad ρ d (by omega)) kl_X3_106 ⟨rfl, rfl, Nat.le_of_ble_eq_true rfl, Nat.le_of_ble_eq_true rfl⟩ rfl rfl (Nat.le_of_ble_eq_true rfl) dX3_countNow_61 ⟨Nat.le_of_ble_eq_true rfl, Nat.le_of_ble_eq_true rfl⟩ (fun r_2 ρ_1 h_3 => ?_)
    obtain ⟨er_2, e9⟩ := h_3
    rw [e9, er_2]
    clear e9
    exact g_iret X hr hlk (by omega) (by omega) dX3_countNow_64 (⟨by show _ = wdF ρ; unfold wdF; rw [hd, nI_clamp (by omega)], rfl⟩)
  · skip
    refine g_tableIn X 65 dX3_countNow_1 (by decide) (by decide) rfl (by decide) ?_
    refine g_aload_n X dX3_countNow_65 0 rfl rfl ?_
    refine g_geti X 0 (by omega) 8 (by decide) ku_X3 kv_X3 kf_X3_37 rfl lC_o_coins dX3_countNow_66 ?_
    exact g_iret X hr hlk (by omega) (by omega) dX3_countNow_69 (⟨rfl, rfl⟩)
  · skip
    refine g_tableIn X 70 dX3_countNow_1 (by decide) (by decide) rfl (by decide) ?_
    refine g_aload_n X dX3_countNow_70 0 rfl rfl ?_
    refine g_geti X 0 (by omega) 5 (by decide) ku_X3 kv_X3 kf_X3_41 rfl lC_o_tuneCount dX3_countNow_71 ?_
    exact g_iret X hr hlk (by omega) (by omega) dX3_countNow_74 (⟨rfl, rfl⟩)
  · skip
    refine g_tableIn X 75 dX3_countNow_1 (by decide) (by decide) rfl (by decide) ?_
    refine g_aload_n X dX3_countNow_75 0 rfl rfl ?_
    refine g_geti X 0 (by omega) 6 (by decide) ku_X3 kv_X3 kf_X3_83 rfl lC_o_streetCount dX3_countNow_76 ?_
    exact g_iret X hr hlk (by omega) (by omega) dX3_countNow_79 (⟨rfl, rfl⟩)
  · skip
    refine g_tableIn X 85 dX3_countNow_1 (by decide) (by decide) rfl (by decide) ?_
    refine g_aload_n X dX3_countNow_85 0 rfl rfl ?_
    refine g_getr X 0 (by omega) 0 (by decide) ku_X3 kv_X3 kf_X3_10 rfl lC_o_pipes dX3_countNow_86 ?_
    refine g_iload_n X dX3_countNow_89 1 rfl rfl ?_
    refine g_mcallVi X 1 (c_X0_sumUp l D cy ad ρ 1 5 (Or.inl rfl) (by omega)) kl_X3_184 ⟨rfl, rfl, Nat.le_of_ble_eq_true rfl, Nat.le_of_ble_eq_true rfl⟩ (by omega) (lC_P (Or.inl rfl)) kv_X0 rfl rfl (Nat.le_of_ble_eq_true rfl) dX3_countNow_90 ⟨Nat.le_of_ble_eq_true rfl, Nat.le_of_ble_eq_true rfl⟩ (fun r_5 ρ_4 h_6 => ?_)
    obtain ⟨er_5, e9⟩ := h_6
    rw [e9, er_5]
    clear e9
    exact g_iret X hr hlk (by omega) (by omega) dX3_countNow_93 (⟨rfl, rfl⟩)
  · skip
    refine g_tableIn X 85 dX3_countNow_1 (by decide) (by decide) rfl (by decide) ?_
    refine g_aload_n X dX3_countNow_85 0 rfl rfl ?_
    refine g_getr X 0 (by omega) 0 (by decide) ku_X3 kv_X3 kf_X3_10 rfl lC_o_pipes dX3_countNow_86 ?_
    refine g_iload_n X dX3_countNow_89 1 rfl rfl ?_
    refine g_mcallVi X 1 (c_X0_sumUp l D cy ad ρ 1 6 (Or.inl rfl) (by omega)) kl_X3_184 ⟨rfl, rfl, Nat.le_of_ble_eq_true rfl, Nat.le_of_ble_eq_true rfl⟩ (by omega) (lC_P (Or.inl rfl)) kv_X0 rfl rfl (Nat.le_of_ble_eq_true rfl) dX3_countNow_90 ⟨Nat.le_of_ble_eq_true rfl, Nat.le_of_ble_eq_true rfl⟩ (fun r_8 ρ_7 h_9 => ?_)
    obtain ⟨er_8, e9⟩ := h_9
    rw [e9, er_8]
    clear e9
    exact g_iret X hr hlk (by omega) (by omega) dX3_countNow_93 (⟨rfl, rfl⟩)
  · skip
    refine g_tableIn X 85 dX3_countNow_1 (by decide) (by decide) rfl (by decide) ?_
    refine g_aload_n X dX3_countNow_85 0 rfl rfl ?_
    refine g_getr X 0 (by omega) 0 (by decide) ku_X3 kv_X3 kf_X3_10 rfl lC_o_pipes dX3_countNow_86 ?_
    refine g_iload_n X dX3_countNow_89 1 rfl rfl ?_
    refine g_mcallVi X 1 (c_X0_sumUp l D cy ad ρ 1 7 (Or.inl rfl) (by omega)) kl_X3_184 ⟨rfl, rfl, Nat.le_of_ble_eq_true rfl, Nat.le_of_ble_eq_true rfl⟩ (by omega) (lC_P (Or.inl rfl)) kv_X0 rfl rfl (Nat.le_of_ble_eq_true rfl) dX3_countNow_90 ⟨Nat.le_of_ble_eq_true rfl, Nat.le_of_ble_eq_true rfl⟩ (fun r_11 ρ_10 h_12 => ?_)
    obtain ⟨er_11, e9⟩ := h_12
    rw [e9, er_11]
    clear e9
    exact g_iret X hr hlk (by omega) (by omega) dX3_countNow_93 (⟨rfl, rfl⟩)
  · skip
    refine g_tableIn X 80 dX3_countNow_1 (by decide) (by decide) rfl (by decide) ?_
    refine g_aload_n X dX3_countNow_80 0 rfl rfl ?_
    refine g_geti X 0 (by omega) 9 (by decide) ku_X3 kv_X3 kf_X3_221 rfl lC_o_fines dX3_countNow_81 ?_
    exact g_iret X hr hlk (by omega) (by omega) dX3_countNow_84 (⟨rfl, rfl⟩)

set_option maxHeartbeats 1000000 in
set_option maxRecDepth 100000 in
theorem c_X3_mix (l : Launch) (D : va_G) (cy : Nat → ClassId) (ad : Nat → Nat) (ρ : Nat → Nat → Int32) (u : Int64) (x : Int32) : gML l yX3_mix cX3_mix 3 (some .long) { frames := 0, cells := 0, slots := 0, locals := 0 } D cy 48 ad (cC ad cy) [.long u, .int x] ρ (fun r ρ1 => r = mixF u x ∧ ρ1 = ρ) 0 0 := by
  refine gML_of (ls := [(0, .long u), (2, .int x)]) RX3 rfl (by decide +kernel) (Nat.le_of_ble_eq_true rfl) rfl ?_
  intro p e s m args below meth c A X hr hlk hnm
  refine g_lload_n X dX3_mix_0 0 rfl rfl ?_
  refine g_ldc2 X kL_X3_227 dX3_mix_1 ?_
  refine g_lmul X dX3_mix_4 ?_
  refine g_iload_n X dX3_mix_5 1 rfl rfl ?_
  refine g_i2l X dX3_mix_6 ?_
  refine g_ladd X dX3_mix_7 ?_
  exact g_lret X hr hlk (by omega) (by omega) dX3_mix_8 (⟨rfl, rfl⟩)

set_option maxHeartbeats 1000000 in
set_option maxRecDepth 100000 in
theorem c_X3_mixTune (l : Launch) (D : va_G) (cy : Nat → ClassId) (ad : Nat → Nat) (ρ : Nat → Nat → Int32) (t L : Nat) (u : Int64) (ht : t < 6) (hL : ρ (14 + 3 * t) 2 = nI L) (hL16 : L ≤ 16) : gML l yX3_mixTune cX3_mixTune 7 (some .long) { frames := 4, cells := 0, slots := 0, locals := 87 } D cy 48 ad (cC ad cy) [.ref (ad 0), .long u, .ref (ad (14 + 3 * t))] ρ (fun r ρ1 => r = mtF ρ t u ∧ ρ1 = ρ) 0 0 := by
  refine gML_of (ls := [(0, .ref (ad 0)), (1, .long u), (3, .ref (ad (14 + 3 * t)))]) RX3 rfl (by decide +kernel) (Nat.le_of_ble_eq_true rfl) rfl ?_
  intro p e s m args below meth c A X hr hlk hnm
  refine g_lload_n X dX3_mixTune_0 1 rfl rfl ?_
  refine g_aload_n X dX3_mixTune_1 2 rfl rfl ?_
  refine g_geti X (14 + 3 * t) (by omega) 2 (by decide) ku_X2 kv_X2 kf_X3_58 rfl (lC_f_length ht) dX3_mixTune_2 ?_
  rw [hL]
  refine g_mcallSl X (c_X3_mix l D cy ad ρ _ _) kl_X3_189 ⟨rfl, rfl, Nat.le_of_ble_eq_true rfl, Nat.le_of_ble_eq_true rfl⟩ rfl rfl (Nat.le_of_ble_eq_true rfl) dX3_mixTune_5 ⟨Nat.le_of_ble_eq_true rfl, Nat.le_of_ble_eq_true rfl⟩ (fun r_2 ρ_1 h_3 => ?_)
  obtain ⟨er_2, e9⟩ := h_3
  rw [e9, er_2]
  clear e9
  refine g_lstore X [(4, .long _), (0, .ref _), (1, .long _), (3, .ref _)] dX3_mixTune_8 (by decide) rfl ?_
  refine g_iconst X (v := 0) dX3_mixTune_10 (by decide) ?_
  refine g_istore X [(6, .int _), (4, .long _), (0, .ref _), (1, .long _), (3, .ref _)] dX3_mixTune_11 (by decide) rfl ?_
  refine g_ls (ls' := [(0, .ref _), (1, .long _), (3, .ref _), (4, .long _), (6, .int _)]) [2, 3, 4, 1, 0] rfl ?_
  refine g_loop (fun _ => True) (fun _ => ρ) (fun i => [(0, .ref (ad 0)), (1, .long u), (3, .ref (ad (14 + 3 * t))), (4, .long (mxs (fun k => ρ (15 + 3 * t) k) i (mixF u (nI L)))), (6, .int (nI i))]) (fun _ => (0 + 0)) (fun _ => (0 + 0)) L 0 trivial (by omega) rfl rfl rfl rfl (fun i h0i hi hIi ihi => ?_)
  refine g_iload X dX3_mixTune_13 4 rfl ?_
  refine g_aload_n X dX3_mixTune_15 2 rfl rfl ?_
  refine g_geti X (14 + 3 * t) (by omega) 2 (by decide) ku_X2 kv_X2 kf_X3_58 rfl (lC_f_length ht) dX3_mixTune_16 ?_
  rw [hL]
  refine g_icmp_geN X i L 49 (by omega) (by omega) dX3_mixTune_19 (by decide) (fun c_4 => ?_) (fun c_4 => ?_)
  · skip
    refine g_lload X dX3_mixTune_49 3 rfl ?_
    refine g_aload_n X dX3_mixTune_51 2 rfl rfl ?_
    refine g_aload_n X dX3_mixTune_52 0 rfl rfl ?_
    refine g_getr X 0 (by omega) 0 (by decide) ku_X3 kv_X3 kf_X3_10 rfl lC_o_pipes dX3_mixTune_53 ?_
    refine g_mcallVi X (14 + 3 * t) (c_X2_soundOf l D cy ad ρ t 1 ht (Or.inl rfl)) kl_X3_156 ⟨rfl, rfl, Nat.le_of_ble_eq_true rfl, Nat.le_of_ble_eq_true rfl⟩ (by omega) (lC_T ht) kv_X2 rfl rfl (Nat.le_of_ble_eq_true rfl) dX3_mixTune_56 ⟨Nat.le_of_ble_eq_true rfl, Nat.le_of_ble_eq_true rfl⟩ (fun r_6 ρ_5 h_7 => ?_)
    obtain ⟨er_6, e9⟩ := h_7
    rw [e9, er_6]
    clear e9
    refine g_mcallSl X (c_X3_mix l D cy ad ρ _ _) kl_X3_189 ⟨rfl, rfl, Nat.le_of_ble_eq_true rfl, Nat.le_of_ble_eq_true rfl⟩ rfl rfl (Nat.le_of_ble_eq_true rfl) dX3_mixTune_59 ⟨Nat.le_of_ble_eq_true rfl, Nat.le_of_ble_eq_true rfl⟩ (fun r_9 ρ_8 h_10 => ?_)
    obtain ⟨er_9, e9⟩ := h_10
    rw [e9, er_9]
    clear e9
    exact g_lret X hr hlk (by omega) (by omega) dX3_mixTune_62 (by refine ⟨?_, rfl⟩; unfold mtF; rw [hL, nI_clamp (by omega), show i = L by omega])
  · skip
    refine g_iload X dX3_mixTune_22 4 rfl ?_
    refine g_bipush X (v := 16) dX3_mixTune_24 (by decide) ?_
    refine g_icmp_geN X i 16 49 (by omega) (by omega) dX3_mixTune_26 (by decide) (fun c_11 => ?_) (fun c_11 => ?_)
    · exfalso; omega
    · skip
      refine g_lload X dX3_mixTune_29 3 rfl ?_
      refine g_aload_n X dX3_mixTune_31 2 rfl rfl ?_
      refine g_getr X (14 + 3 * t) (by omega) 0 (by decide) ku_X2 kv_X2 kf_X3_72 rfl (lC_f_notes ht) dX3_mixTune_32 ?_
      refine g_iload X dX3_mixTune_35 4 rfl ?_
      refine g_ialdN X (15 + 3 * t) i (by omega) (lC_notes ht) (by omega) (by decide) dX3_mixTune_37 ?_
      refine g_mcallSl X (c_X3_mix l D cy ad ρ _ _) kl_X3_189 ⟨rfl, rfl, Nat.le_of_ble_eq_true rfl, Nat.le_of_ble_eq_true rfl⟩ rfl rfl (Nat.le_of_ble_eq_true rfl) dX3_mixTune_38 ⟨Nat.le_of_ble_eq_true rfl, Nat.le_of_ble_eq_true rfl⟩ (fun r_13 ρ_12 h_14 => ?_)
      obtain ⟨er_13, e9⟩ := h_14
      rw [e9, er_13]
      clear e9
      refine g_lstore X [(4, .long _), (0, .ref _), (1, .long _), (3, .ref _), (6, .int _)] dX3_mixTune_41 (by decide) rfl ?_
      refine g_iincN X i 6 [(6, .int _), (4, .long _), (0, .ref _), (1, .long _), (3, .ref _)] 4 dX3_mixTune_43 rfl (by decide) rfl ?_
      refine g_goto X 13 dX3_mixTune_46 (by decide) ?_
      refine g_ls (ls' := [(0, .ref _), (1, .long _), (3, .ref _), (4, .long _), (6, .int _)]) [2, 3, 4, 1, 0] rfl ?_
      exact g_eqv (ihi (by omega) trivial) (rfl) (rfl) rfl rfl

set_option maxHeartbeats 1000000 in
set_option maxRecDepth 100000 in
theorem c_X3_mixStreet (l : Launch) (D : va_G) (cy : Nat → ClassId) (ad : Nat → Nat) (ρ : Nat → Nat → Int32) (z T d : Nat) (u : Int64) (hs : z < 8) (hT : ρ 0 5 = nI T) (hT6 : T ≤ 6) (hd : ρ 0 7 = nI d) (hd31 : d < 2 ^ 31) (hpo : ∀ t, t < 6 → payOK ρ z t (sndC ρ 1 t (-1))) : gML l yX3_mixStreet cX3_mixStreet 7 (some .long) { frames := 5, cells := 0, slots := 0, locals := 109 } D cy 48 ad (cC ad cy) [.ref (ad 0), .long u, .int (nI z)] ρ (fun r ρ1 => r = msF ρ z u ∧ ρ1 = ρ) 0 0 := by
  refine gML_of (ls := [(0, .ref (ad 0)), (1, .long u), (3, .int (nI z))]) RX3 rfl (by decide +kernel) (Nat.le_of_ble_eq_true rfl) rfl ?_
  intro p e s m args below meth c A X hr hlk hnm
  have hwd : wdF ρ = nI (d % 7) := by unfold wdF; rw [hd, nI_clamp (by omega)]
  refine g_lload_n X dX3_mixStreet_0 1 rfl rfl ?_
  refine g_lstore X [(4, .long _), (0, .ref _), (1, .long _), (3, .int _)] dX3_mixStreet_1 (by decide) rfl ?_
  refine g_iconst X (v := 0) dX3_mixStreet_3 (by decide) ?_
  refine g_istore X [(6, .int _), (4, .long _), (0, .ref _), (1, .long _), (3, .int _)] dX3_mixStreet_4 (by decide) rfl ?_
  refine g_ls (ls' := [(0, .ref _), (1, .long _), (3, .int _), (4, .long _), (6, .int _)]) [2, 3, 4, 1, 0] rfl ?_
  refine g_loop (fun _ => True) (fun _ => ρ) (fun i => [(0, .ref (ad 0)), (1, .long u), (3, .int (nI z)), (4, .long (mxs (fun w => toldF ρ z w (wdF ρ)) i u)), (6, .int (nI i))]) (fun _ => 0) (fun _ => 0) 5 0 trivial (by omega) rfl rfl rfl rfl (fun i h0i hi hIi ihi => ?_)
  refine g_iload X dX3_mixStreet_6 4 rfl ?_
  refine g_iconst X (v := 5) dX3_mixStreet_8 (by decide) ?_
  refine g_icmp_geN X i 5 43 (by omega) (by omega) dX3_mixStreet_9 (by decide) (fun c_1 => ?_) (fun c_1 => ?_)
  · skip
    refine g_iconst X (v := 0) dX3_mixStreet_43 (by decide) ?_
    refine g_istore X [(6, .int _), (0, .ref _), (1, .long _), (3, .int _), (4, .long _)] dX3_mixStreet_44 (by decide) rfl ?_
    have h5 : i = 5 := by omega
    subst h5
    refine g_ls (ls' := [(0, .ref _), (1, .long _), (3, .int _), (4, .long _), (6, .int _)]) [1, 2, 3, 4, 0] rfl ?_
    refine g_loop (fun _ => True) (fun _ => ρ) (fun j => [(0, .ref (ad 0)), (1, .long u), (3, .int (nI z)), (4, .long (mxs (fun t => pyN ρ z t) j (mxs (fun w => toldF ρ z w (wdF ρ)) 5 u))), (6, .int (nI j))]) (fun _ => (0)) (fun _ => (0)) T 0 trivial (by omega) rfl rfl rfl rfl (fun j h0j hj hIj ihj => ?_)
    refine g_iload X dX3_mixStreet_46 4 rfl ?_
    refine g_aload_n X dX3_mixStreet_48 0 rfl rfl ?_
    refine g_geti X 0 (by omega) 5 (by decide) ku_X3 kv_X3 kf_X3_41 rfl lC_o_tuneCount dX3_mixStreet_49 ?_
    rw [show ρ 0 5 = nI T from hT]
    refine g_icmp_geN X j T 75 (by omega) (by omega) dX3_mixStreet_52 (by decide) (fun c_2 => ?_) (fun c_2 => ?_)
    · skip
      refine g_lload X dX3_mixStreet_75 3 rfl ?_
      exact g_lret X hr hlk (by omega) (by omega) dX3_mixStreet_77 (by refine ⟨?_, rfl⟩; unfold msF; rw [hT, nI_clamp (by omega), show j = T by omega])
    · skip
      refine g_lload X dX3_mixStreet_55 3 rfl ?_
      refine g_aload_n X dX3_mixStreet_57 0 rfl rfl ?_
      refine g_iload_n X dX3_mixStreet_58 2 rfl rfl ?_
      refine g_iload X dX3_mixStreet_59 4 rfl ?_
      refine g_mcallVi X 0 (c_X3_payNow l D cy ad ρ z j (by omega) (by omega) (hpo j (by omega))) kl_X3_117 ⟨rfl, rfl, Nat.le_of_ble_eq_true rfl, Nat.le_of_ble_eq_true rfl⟩ (by omega) lC_O kv_X3 rfl rfl (Nat.le_of_ble_eq_true rfl) dX3_mixStreet_61 ⟨Nat.le_of_ble_eq_true rfl, Nat.le_of_ble_eq_true rfl⟩ (fun r_4 ρ_3 h_5 => ?_)
      obtain ⟨er_4, e9⟩ := h_5
      rw [e9, er_4]
      clear e9
      refine g_mcallSl X (c_X3_mix l D cy ad ρ _ _) kl_X3_189 ⟨rfl, rfl, Nat.le_of_ble_eq_true rfl, Nat.le_of_ble_eq_true rfl⟩ rfl rfl (Nat.le_of_ble_eq_true rfl) dX3_mixStreet_64 ⟨Nat.le_of_ble_eq_true rfl, Nat.le_of_ble_eq_true rfl⟩ (fun r_7 ρ_6 h_8 => ?_)
      obtain ⟨er_7, e9⟩ := h_8
      rw [e9, er_7]
      clear e9
      refine g_lstore X [(4, .long _), (0, .ref _), (1, .long _), (3, .int _), (6, .int _)] dX3_mixStreet_67 (by decide) rfl ?_
      refine g_iincN X j 6 [(6, .int _), (4, .long _), (0, .ref _), (1, .long _), (3, .int _)] 4 dX3_mixStreet_69 rfl (by decide) rfl ?_
      refine g_goto X 46 dX3_mixStreet_72 (by decide) ?_
      refine g_ls (ls' := [(0, .ref _), (1, .long _), (3, .int _), (4, .long _), (6, .int _)]) [2, 3, 4, 1, 0] rfl ?_
      exact g_eqv (ihj (by omega) trivial) (rfl) (rfl) rfl rfl
  · skip
    refine g_lload X dX3_mixStreet_12 3 rfl ?_
    refine g_aload_n X dX3_mixStreet_14 0 rfl rfl ?_
    refine g_getr X 0 (by omega) 3 (by decide) ku_X3 kv_X3 kf_X3_28 rfl lC_o_streets dX3_mixStreet_15 ?_
    refine g_iload_n X dX3_mixStreet_18 2 rfl rfl ?_
    refine g_aaldN X 12 z 3 (by omega) lC_streets rfl (by omega) (by decide) dX3_mixStreet_19 ?_
    refine g_iload X dX3_mixStreet_20 4 rfl ?_
    refine g_aload_n X dX3_mixStreet_22 0 rfl rfl ?_
    refine g_geti X 0 (by omega) 7 (by decide) ku_X3 kv_X3 kf_X3_103 rfl lC_o_day dX3_mixStreet_23 ?_
    rw [show ρ 0 7 = nI d from hd]
    refine g_mcallSi X (c_X3_weekdayOf l D cy ad ρ d (by omega)) kl_X3_106 ⟨rfl, rfl, Nat.le_of_ble_eq_true rfl, Nat.le_of_ble_eq_true rfl⟩ rfl rfl (Nat.le_of_ble_eq_true rfl) dX3_mixStreet_26 ⟨Nat.le_of_ble_eq_true rfl, Nat.le_of_ble_eq_true rfl⟩ (fun r_10 ρ_9 h_11 => ?_)
    obtain ⟨er_10, e9⟩ := h_11
    rw [e9, er_10]
    clear e9
    refine g_mcallVi X (32 + 2 * z) (c_X1_tell l D cy ad ρ z i _ (by omega) (by omega)) kl_X3_160 ⟨rfl, rfl, Nat.le_of_ble_eq_true rfl, Nat.le_of_ble_eq_true rfl⟩ (by omega) (lC_S (by omega)) kv_X1 rfl rfl (Nat.le_of_ble_eq_true rfl) dX3_mixStreet_29 ⟨Nat.le_of_ble_eq_true rfl, Nat.le_of_ble_eq_true rfl⟩ (fun r_13 ρ_12 h_14 => ?_)
    obtain ⟨er_13, e9⟩ := h_14
    rw [e9, er_13]
    clear e9
    refine g_mcallSl X (c_X3_mix l D cy ad ρ _ _) kl_X3_189 ⟨rfl, rfl, Nat.le_of_ble_eq_true rfl, Nat.le_of_ble_eq_true rfl⟩ rfl rfl (Nat.le_of_ble_eq_true rfl) dX3_mixStreet_32 ⟨Nat.le_of_ble_eq_true rfl, Nat.le_of_ble_eq_true rfl⟩ (fun r_16 ρ_15 h_17 => ?_)
    obtain ⟨er_16, e9⟩ := h_17
    rw [e9, er_16]
    clear e9
    refine g_lstore X [(4, .long _), (0, .ref _), (1, .long _), (3, .int _), (6, .int _)] dX3_mixStreet_35 (by decide) rfl ?_
    refine g_iincN X i 6 [(6, .int _), (4, .long _), (0, .ref _), (1, .long _), (3, .int _)] 4 dX3_mixStreet_37 rfl (by decide) rfl ?_
    refine g_goto X 6 dX3_mixStreet_40 (by decide) ?_
    refine g_ls (ls' := [(0, .ref _), (1, .long _), (3, .int _), (4, .long _), (6, .int _)]) [2, 3, 4, 1, 0] rfl ?_
    exact g_eqv (ihi (by omega) trivial) (by rw [← hwd]; rfl) (rfl) rfl rfl
