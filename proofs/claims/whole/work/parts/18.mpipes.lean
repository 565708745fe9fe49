set_option maxHeartbeats 1000000 in
set_option maxRecDepth 100000 in
theorem c_X5_held (l : Launch) (D : va_G) (cy : Nat → ClassId) (ad : Nat → Nat) (ρ : Nat → Nat → Int32) (th a : Int32) (x : Int32) : gMI l yX5_held cX5_held 1 (some .int) { frames := 1, cells := 0, slots := 0, locals := 21 } D cy 18 ad (cM ad cy) [.int x] (rM ρ th a) (fun r μ1 => r = hd x ∧ μ1 = rM ρ th a) 0 0 := by
  refine gMI_of (ls := [(0, .int x)]) RX5 rfl (by decide +kernel) (Nat.le_of_ble_eq_true rfl) rfl ?_
  intro p e s m args below meth c A X hr hlk hnm
  refine g_bipush X (v := -60) dX5_held_0 (by decide) ?_
  refine g_bipush X (v := 60) dX5_held_2 (by decide) ?_
  refine g_iload_n X dX5_held_4 0 rfl rfl ?_
  refine g_mmin X km_X5_48 kt_mmin ki_math kc_mmin ⟨Nat.le_of_ble_eq_true rfl, Nat.le_of_ble_eq_true rfl, by omega, by omega⟩ dX5_held_5 ?_
  refine g_mmax X km_X5_54 kt_mmax ki_math kc_mmax ⟨Nat.le_of_ble_eq_true rfl, Nat.le_of_ble_eq_true rfl, by omega, by omega⟩ dX5_held_8 ?_
  exact g_iret X hr hlk (by omega) (by omega) dX5_held_11 (⟨rfl, rfl⟩)

set_option maxHeartbeats 1000000 in
set_option maxRecDepth 100000 in
theorem c_X4_harm (l : Launch) (D : va_G) (cy : Nat → ClassId) (ad : Nat → Nat) (ρ : Nat → Nat → Int32) (th a : Int32) (b i : Nat) (hb : isP b) (hi : i < 12) (h01 : ρ (b + 3) i = 0 ∨ ρ (b + 3) i = 1) : gMI l yX4_harm cX4_harm 2 (some .int) { frames := 1, cells := 0, slots := 0, locals := 21 } D cy 18 ad (cM ad cy) [.ref (ad (b + 7)), .int (nI i)] (rM ρ th a) (fun r μ1 => r = hP ρ b i ∧ μ1 = rM ρ th a) 0 0 := by
  refine gMI_of (ls := [(0, .ref (ad (b + 7))), (1, .int (nI i))]) RX4 rfl (by decide +kernel) (Nat.le_of_ble_eq_true rfl) rfl ?_
  intro p e s m args below meth c A X hr hlk hnm
  have hb9 := isP_lt hb
  have hb6 : b ≤ 6 := by rcases hb with rfl | rfl <;> decide
  refine g_aload_n X dX4_harm_0 0 rfl rfl ?_
  refine g_getr X (b + 7) (by omega) 3 (by decide) ku_X4 kv_X4 kf_X4_18 rfl (lM_f_cri (isQ7 hb)) dX4_harm_1 ?_
  refine g_iload_n X dX4_harm_4 1 rfl rfl ?_
  refine g_ialdN X ((b + 7) + 3) i (by omega) (lM_cri (isQ7 hb)) (by omega) (by decide) dX4_harm_5 ?_
  rw [rM_c hb (by omega)]
  refine g_iconst X (v := 1) dX4_harm_6 (by decide) ?_
  refine g_icmp_ne X 15 dX4_harm_7 (by decide) (fun c_1 => ?_) (fun c_1 => ?_)
  · skip
    have cA := c_1
    refine g_bipush X (v := 60) dX4_harm_15 (by decide) ?_
    refine g_aload_n X dX4_harm_17 0 rfl rfl ?_
    refine g_getr X (b + 7) (by omega) 2 (by decide) ku_X4 kv_X4 kf_X4_15 rfl (lM_f_off (isQ7 hb)) dX4_harm_18 ?_
    refine g_iload_n X dX4_harm_21 1 rfl rfl ?_
    refine g_ialdN X ((b + 7) + 2) i (by omega) (lM_off (isQ7 hb)) (by omega) (by decide) dX4_harm_22 ?_
    rw [rM_o hb (by omega)]
    refine g_mabs X km_X4_34 kt_mabs ki_math kc_mabs ⟨Nat.le_of_ble_eq_true rfl, Nat.le_of_ble_eq_true rfl, by omega, by omega⟩ dX4_harm_23 ?_
    refine g_iconst X (v := 2) dX4_harm_26 (by decide) ?_
    refine g_aload_n X dX4_harm_27 0 rfl rfl ?_
    refine g_getr X (b + 7) (by omega) 1 (by decide) ku_X4 kv_X4 kf_X4_9 rfl (lM_f_worn (isQ7 hb)) dX4_harm_28 ?_
    refine g_iload_n X dX4_harm_31 1 rfl rfl ?_
    refine g_ialdN X ((b + 7) + 1) i (by omega) (lM_worn (isQ7 hb)) (by omega) (by decide) dX4_harm_32 ?_
    rw [rM_w hb (by omega)]
    refine g_imul X dX4_harm_33 ?_
    refine g_iadd X dX4_harm_34 ?_
    refine g_mmin X km_X4_40 kt_mmin ki_math kc_mmin ⟨Nat.le_of_ble_eq_true rfl, Nat.le_of_ble_eq_true rfl, by omega, by omega⟩ dX4_harm_35 ?_
    exact g_iret X hr hlk (by omega) (by omega) dX4_harm_38 (⟨by simp only [hP, hm]; rw [if_pos (h01.resolve_right cA)]; rfl, rfl⟩)
  · skip
    have cA := c_1
    refine g_bipush X (v := 60) dX4_harm_10 (by decide) ?_
    refine g_goto X 38 dX4_harm_12 (by decide) ?_
    exact g_iret X hr hlk (by omega) (by omega) dX4_harm_38 (⟨by simp only [hP, hm]; rw [if_neg (by rw [cA]; decide)], rfl⟩)

set_option maxHeartbeats 1000000 in
set_option maxRecDepth 100000 in
theorem c_X4_sing (l : Launch) (D : va_G) (cy : Nat → ClassId) (ad : Nat → Nat) (ρ : Nat → Nat → Int32) (th a : Int32) (b i : Nat) (hb : isP b) (hi : i < 12) : gMV l yX4_sing cX4_sing 2 none { frames := 1, cells := 0, slots := 0, locals := 21 } D cy 18 ad (cM ad cy) [.ref (ad (b + 7)), .int (nI i)] (rM ρ th a) (fun μ1 => μ1 = rM (snR ρ b i) th a) 0 0 := by
  refine gMV_of (ls := [(0, .ref (ad (b + 7))), (1, .int (nI i))]) RX4 rfl (by decide +kernel) (Nat.le_of_ble_eq_true rfl) rfl ?_
  intro p e s m args below meth c A X hr hlk hnm
  have hb9 := isP_lt hb
  have hb6 : b ≤ 6 := by rcases hb with rfl | rfl <;> decide
  refine g_aload_n X dX4_sing_0 0 rfl rfl ?_
  refine g_getr X (b + 7) (by omega) 1 (by decide) ku_X4 kv_X4 kf_X4_9 rfl (lM_f_worn (isQ7 hb)) dX4_sing_1 ?_
  refine g_iload_n X dX4_sing_4 1 rfl rfl ?_
  refine g_bipush X (v := 30) dX4_sing_5 (by decide) ?_
  refine g_aload_n X dX4_sing_7 0 rfl rfl ?_
  refine g_getr X (b + 7) (by omega) 1 (by decide) ku_X4 kv_X4 kf_X4_9 rfl (lM_f_worn (isQ7 hb)) dX4_sing_8 ?_
  refine g_iload_n X dX4_sing_11 1 rfl rfl ?_
  refine g_ialdN X ((b + 7) + 1) i (by omega) (lM_worn (isQ7 hb)) (by omega) (by decide) dX4_sing_12 ?_
  rw [rM_w hb (by omega)]
  refine g_iconst X (v := 1) dX4_sing_13 (by decide) ?_
  refine g_iadd X dX4_sing_14 ?_
  refine g_mmin X km_X4_40 kt_mmin ki_math kc_mmin ⟨Nat.le_of_ble_eq_true rfl, Nat.le_of_ble_eq_true rfl, by omega, by omega⟩ dX4_sing_15 ?_
  refine g_iastN X ((b + 7) + 1) i (by omega) (lM_worn (isQ7 hb)) (by omega) (by decide) dX4_sing_18 (fun ρ_1 eρ_1 => ?_)
  rw [eρ_1, wM_pip (m := 1) hb (by omega) (by omega)]
  refine g_aload_n X dX4_sing_19 0 rfl rfl ?_
  refine g_getr X (b + 7) (by omega) 4 (by decide) ku_X4 kv_X4 kf_X4_21 rfl (lM_f_sang (isQ7 hb)) dX4_sing_20 ?_
  refine g_iload_n X dX4_sing_23 1 rfl rfl ?_
  refine g_iconst X (v := 1) dX4_sing_24 (by decide) ?_
  refine g_iastN X ((b + 7) + 4) i (by omega) (lM_sang (isQ7 hb)) (by omega) (by decide) dX4_sing_25 (fun ρ_2 eρ_2 => ?_)
  rw [eρ_2, wM_pip (m := 4) hb (by omega) (by omega)]
  exact g_vret X hr hlk (by omega) (by omega) dX4_sing_26 (rfl)

set_option maxHeartbeats 1000000 in
set_option maxRecDepth 100000 in
theorem c_X4_rest_s (l : Launch) (D : va_G) (cy : Nat → ClassId) (ad : Nat → Nat) (ρ : Nat → Nat → Int32) (th a : Int32) (u : Int32) : gMI l yX4_rest cX4_rest 4 (some .int) { frames := 2, cells := 0, slots := 0, locals := 41 } D cy 18 ad (cM ad cy) [.ref (ad (1 + 7)), .int u] (rM ρ th a) (fun r μ1 => r = sumI (cmB ρ 1) 12 ∧ μ1 = rM (up2 (ntR ρ 1 u 12) 0 7 (ρ 0 7 + 1)) th a) 0 0 := by
  refine gMI_of (ls := [(0, .ref (ad (1 + 7))), (1, .int u)]) RX4 rfl (by decide +kernel) (Nat.le_of_ble_eq_true rfl) rfl ?_
  intro p e s m args below meth c A X hr hlk hnm
  refine g_iconst X (v := 0) dX4_rest_0 (by decide) ?_
  refine g_istore_n X [(2, .int _), (0, .ref _), (1, .int _)] dX4_rest_1 rfl (by decide) rfl ?_
  refine g_iconst X (v := 0) dX4_rest_2 (by decide) ?_
  refine g_istore_n X [(3, .int _), (2, .int _), (0, .ref _), (1, .int _)] dX4_rest_3 rfl (by decide) rfl ?_
  refine g_ls (ls' := [(0, .ref _), (1, .int _), (2, .int _), (3, .int _)]) [2, 3, 1, 0] rfl ?_
  refine g_loop (fun _ => True) (fun i => rM (ntR ρ 1 u i) th a) (fun i => [(0, .ref (ad (1 + 7))), (1, .int u), (2, .int (sumI (cmB ρ 1) i)), (3, .int (nI i))]) (fun _ => 0) (fun _ => 0) 12 0 trivial (by omega) rfl (by rw [show ntR ρ 1 u 0 = ρ by funext k j; simp [ntR]]) rfl rfl (fun i h0i hi hIi ihi => ?_)
  obtain ⟨ρa, eρa⟩ : ∃ ρz, ρz = ntR ρ 1 u i := ⟨_, rfl⟩
  rw [← eρa]
  refine g_iload_n X dX4_rest_4 3 rfl rfl ?_
  refine g_bipush X (v := 12) dX4_rest_5 (by decide) ?_
  refine g_icmp_geN X i 12 90 (by omega) (by omega) dX4_rest_7 (by decide) (fun c_1 => ?_) (fun c_1 => ?_)
  · skip
    have h12 : i = 12 := by omega
    refine g_aload_n X dX4_rest_90 0 rfl rfl ?_
    refine g_dup X dX4_rest_91 rfl ?_
    refine g_geti X (1 + 7) (by omega) 0 (by decide) ku_X4 kv_X4 kf_X4_24 rfl (lM_f_day (isQ7 (Or.inl rfl))) dX4_rest_92 ?_
    rw [rM_day]
    rw [show ρa 0 7 = ρ 0 7 by rw [eρa]; simp [ntR]]
    refine g_iconst X (v := 1) dX4_rest_95 (by decide) ?_
    refine g_iadd X dX4_rest_96 ?_
    refine g_puti X (1 + 7) (by omega) 0 (by decide) ku_X4 kv_X4 kf_X4_24 rfl tyX4 tyX4_ok nmX4 rfl (by decide +kernel) (lM_f_day (isQ7 (Or.inl rfl))) dX4_rest_97 (fun ρ_2 eρ_2 => ?_)
    rw [eρ_2, wM_day]
    refine g_iload_n X dX4_rest_100 2 rfl rfl ?_
    exact g_iret X hr hlk (by omega) (by omega) dX4_rest_101 (by subst_vars; exact ⟨rfl, rfl⟩)
  · skip
    refine g_aload_n X dX4_rest_10 0 rfl rfl ?_
    refine g_getr X (1 + 7) (by omega) 1 (by decide) ku_X4 kv_X4 kf_X4_9 rfl (lM_f_worn (isQ7 (Or.inl rfl))) dX4_rest_11 ?_
    refine g_iload_n X dX4_rest_14 3 rfl rfl ?_
    refine g_ialdN X ((1 + 7) + 1) i (by omega) (lM_worn (isQ7 (Or.inl rfl))) (by omega) (by decide) dX4_rest_15 ?_
    rw [rM_w (Or.inl rfl) (by omega)]
    rw [show ρa (1 + 1) i = ρ (1 + 1) i by rw [eρa]; simp [ntR]]
    refine g_bipush X (v := 10) dX4_rest_16 (by decide) ?_
    refine g_icmp_lt X 49 dX4_rest_18 (by decide) (fun c_3 => ?_) (fun c_3 => ?_)
    · skip
      refine g_aload_n X dX4_rest_49 0 rfl rfl ?_
      refine g_getr X (1 + 7) (by omega) 2 (by decide) ku_X4 kv_X4 kf_X4_15 rfl (lM_f_off (isQ7 (Or.inl rfl))) dX4_rest_50 ?_
      refine g_iload_n X dX4_rest_53 3 rfl rfl ?_
      refine g_aload_n X dX4_rest_54 0 rfl rfl ?_
      refine g_getr X (1 + 7) (by omega) 2 (by decide) ku_X4 kv_X4 kf_X4_15 rfl (lM_f_off (isQ7 (Or.inl rfl))) dX4_rest_55 ?_
      refine g_iload_n X dX4_rest_58 3 rfl rfl ?_
      refine g_ialdN X ((1 + 7) + 2) i (by omega) (lM_off (isQ7 (Or.inl rfl))) (by omega) (by decide) dX4_rest_59 ?_
      rw [rM_o (Or.inl rfl) (by omega)]
      refine g_iload_n X dX4_rest_60 3 rfl rfl ?_
      refine g_iconst X (v := 2) dX4_rest_61 (by decide) ?_
      refine g_irem X dX4_rest_62 (by decide) ?_
      rw [remN (by omega)]
      refine g_if_ne X 70 dX4_rest_63 (by decide) (fun c_4 => ?_) (fun c_4 => ?_)
      · skip
        refine g_iload_n X dX4_rest_70 1 rfl rfl ?_
        refine g_ineg X dX4_rest_71 ?_
        refine g_iadd X dX4_rest_72 ?_
        refine g_mcallSNi (nA := 1) X (c_X5_held l D cy ad _ _ _ _) kmn_X4_44 kt_X5_held ki_X5 kc_X5_held (by decide +kernel) ⟨rfl, rfl, Nat.le_of_ble_eq_true rfl, Nat.le_of_ble_eq_true rfl⟩ rfl rfl (Nat.le_of_ble_eq_true rfl) dX4_rest_73 ⟨by omega, by omega⟩ (fun r_5 ρ_6 h_7 => ?_)
        obtain ⟨er_5, e9⟩ := h_7
        rw [e9, er_5]
        clear e9
        refine g_iastN X ((1 + 7) + 2) i (by omega) (lM_off (isQ7 (Or.inl rfl))) (by omega) (by decide) dX4_rest_76 (fun ρ_8 eρ_8 => ?_)
        rw [eρ_8, wM_pip (m := 2) (Or.inl rfl) (by omega) (by omega)]
        refine g_aload_n X dX4_rest_77 0 rfl rfl ?_
        refine g_getr X (1 + 7) (by omega) 4 (by decide) ku_X4 kv_X4 kf_X4_21 rfl (lM_f_sang (isQ7 (Or.inl rfl))) dX4_rest_78 ?_
        refine g_iload_n X dX4_rest_81 3 rfl rfl ?_
        refine g_iconst X (v := 0) dX4_rest_82 (by decide) ?_
        refine g_iastN X ((1 + 7) + 4) i (by omega) (lM_sang (isQ7 (Or.inl rfl))) (by omega) (by decide) dX4_rest_83 (fun ρ_9 eρ_9 => ?_)
        rw [eρ_9, wM_pip (m := 4) (Or.inl rfl) (by omega) (by omega)]
        refine g_iincN X i 3 [(3, .int _), (0, .ref _), (1, .int _), (2, .int _)] 3 dX4_rest_84 rfl (by decide) rfl ?_
        refine g_goto X 4 dX4_rest_87 (by decide) ?_
        refine g_ls (ls' := [(0, .ref _), (1, .int _), (2, .int _), (3, .int _)]) [1, 2, 3, 0] rfl ?_
        exact g_eqv (ihi (by omega) trivial) (by simp only [sumI, cmB, *, ↓reduceIte, Int32.add_zero]) (by subst_vars; congr 1; funext k j; simp only [up2_e, ntR, cmB, par] at *; grind (splits := 20)) rfl rfl
      · skip
        refine g_iload_n X dX4_rest_66 1 rfl rfl ?_
        refine g_goto X 72 dX4_rest_67 (by decide) ?_
        refine g_iadd X dX4_rest_72 ?_
        refine g_mcallSNi (nA := 1) X (c_X5_held l D cy ad _ _ _ _) kmn_X4_44 kt_X5_held ki_X5 kc_X5_held (by decide +kernel) ⟨rfl, rfl, Nat.le_of_ble_eq_true rfl, Nat.le_of_ble_eq_true rfl⟩ rfl rfl (Nat.le_of_ble_eq_true rfl) dX4_rest_73 ⟨by omega, by omega⟩ (fun r_10 ρ_11 h_12 => ?_)
        obtain ⟨er_10, e9⟩ := h_12
        rw [e9, er_10]
        clear e9
        refine g_iastN X ((1 + 7) + 2) i (by omega) (lM_off (isQ7 (Or.inl rfl))) (by omega) (by decide) dX4_rest_76 (fun ρ_13 eρ_13 => ?_)
        rw [eρ_13, wM_pip (m := 2) (Or.inl rfl) (by omega) (by omega)]
        refine g_aload_n X dX4_rest_77 0 rfl rfl ?_
        refine g_getr X (1 + 7) (by omega) 4 (by decide) ku_X4 kv_X4 kf_X4_21 rfl (lM_f_sang (isQ7 (Or.inl rfl))) dX4_rest_78 ?_
        refine g_iload_n X dX4_rest_81 3 rfl rfl ?_
        refine g_iconst X (v := 0) dX4_rest_82 (by decide) ?_
        refine g_iastN X ((1 + 7) + 4) i (by omega) (lM_sang (isQ7 (Or.inl rfl))) (by omega) (by decide) dX4_rest_83 (fun ρ_14 eρ_14 => ?_)
        rw [eρ_14, wM_pip (m := 4) (Or.inl rfl) (by omega) (by omega)]
        refine g_iincN X i 3 [(3, .int _), (0, .ref _), (1, .int _), (2, .int _)] 3 dX4_rest_84 rfl (by decide) rfl ?_
        refine g_goto X 4 dX4_rest_87 (by decide) ?_
        refine g_ls (ls' := [(0, .ref _), (1, .int _), (2, .int _), (3, .int _)]) [1, 2, 3, 0] rfl ?_
        exact g_eqv (ihi (by omega) trivial) (by simp only [sumI, cmB, *, ↓reduceIte, Int32.add_zero]) (by subst_vars; congr 1; funext k j; simp only [up2_e, ntR, cmB, par] at *; grind (splits := 20)) rfl rfl
    · skip
      refine g_aload_n X dX4_rest_21 0 rfl rfl ?_
      refine g_getr X (1 + 7) (by omega) 4 (by decide) ku_X4 kv_X4 kf_X4_21 rfl (lM_f_sang (isQ7 (Or.inl rfl))) dX4_rest_22 ?_
      refine g_iload_n X dX4_rest_25 3 rfl rfl ?_
      refine g_ialdN X ((1 + 7) + 4) i (by omega) (lM_sang (isQ7 (Or.inl rfl))) (by omega) (by decide) dX4_rest_26 ?_
      rw [rM_s (Or.inl rfl) (by omega)]
      rw [show ρa (1 + 4) i = ρ (1 + 4) i by rw [eρa]; simp [ntR]]
      refine g_if_ne X 49 dX4_rest_27 (by decide) (fun c_15 => ?_) (fun c_15 => ?_)
      · skip
        refine g_aload_n X dX4_rest_49 0 rfl rfl ?_
        refine g_getr X (1 + 7) (by omega) 2 (by decide) ku_X4 kv_X4 kf_X4_15 rfl (lM_f_off (isQ7 (Or.inl rfl))) dX4_rest_50 ?_
        refine g_iload_n X dX4_rest_53 3 rfl rfl ?_
        refine g_aload_n X dX4_rest_54 0 rfl rfl ?_
        refine g_getr X (1 + 7) (by omega) 2 (by decide) ku_X4 kv_X4 kf_X4_15 rfl (lM_f_off (isQ7 (Or.inl rfl))) dX4_rest_55 ?_
        refine g_iload_n X dX4_rest_58 3 rfl rfl ?_
        refine g_ialdN X ((1 + 7) + 2) i (by omega) (lM_off (isQ7 (Or.inl rfl))) (by omega) (by decide) dX4_rest_59 ?_
        rw [rM_o (Or.inl rfl) (by omega)]
        refine g_iload_n X dX4_rest_60 3 rfl rfl ?_
        refine g_iconst X (v := 2) dX4_rest_61 (by decide) ?_
        refine g_irem X dX4_rest_62 (by decide) ?_
        rw [remN (by omega)]
        refine g_if_ne X 70 dX4_rest_63 (by decide) (fun c_16 => ?_) (fun c_16 => ?_)
        · skip
          refine g_iload_n X dX4_rest_70 1 rfl rfl ?_
          refine g_ineg X dX4_rest_71 ?_
          refine g_iadd X dX4_rest_72 ?_
          refine g_mcallSNi (nA := 1) X (c_X5_held l D cy ad _ _ _ _) kmn_X4_44 kt_X5_held ki_X5 kc_X5_held (by decide +kernel) ⟨rfl, rfl, Nat.le_of_ble_eq_true rfl, Nat.le_of_ble_eq_true rfl⟩ rfl rfl (Nat.le_of_ble_eq_true rfl) dX4_rest_73 ⟨by omega, by omega⟩ (fun r_17 ρ_18 h_19 => ?_)
          obtain ⟨er_17, e9⟩ := h_19
          rw [e9, er_17]
          clear e9
          refine g_iastN X ((1 + 7) + 2) i (by omega) (lM_off (isQ7 (Or.inl rfl))) (by omega) (by decide) dX4_rest_76 (fun ρ_20 eρ_20 => ?_)
          rw [eρ_20, wM_pip (m := 2) (Or.inl rfl) (by omega) (by omega)]
          refine g_aload_n X dX4_rest_77 0 rfl rfl ?_
          refine g_getr X (1 + 7) (by omega) 4 (by decide) ku_X4 kv_X4 kf_X4_21 rfl (lM_f_sang (isQ7 (Or.inl rfl))) dX4_rest_78 ?_
          refine g_iload_n X dX4_rest_81 3 rfl rfl ?_
          refine g_iconst X (v := 0) dX4_rest_82 (by decide) ?_
          refine g_iastN X ((1 + 7) + 4) i (by omega) (lM_sang (isQ7 (Or.inl rfl))) (by omega) (by decide) dX4_rest_83 (fun ρ_21 eρ_21 => ?_)
          rw [eρ_21, wM_pip (m := 4) (Or.inl rfl) (by omega) (by omega)]
          refine g_iincN X i 3 [(3, .int _), (0, .ref _), (1, .int _), (2, .int _)] 3 dX4_rest_84 rfl (by decide) rfl ?_
          refine g_goto X 4 dX4_rest_87 (by decide) ?_
          refine g_ls (ls' := [(0, .ref _), (1, .int _), (2, .int _), (3, .int _)]) [1, 2, 3, 0] rfl ?_
          exact g_eqv (ihi (by omega) trivial) (by simp only [sumI, cmB, *, ↓reduceIte, Int32.add_zero]) (by subst_vars; congr 1; funext k j; simp only [up2_e, ntR, cmB, par] at *; grind (splits := 20)) rfl rfl
        · skip
          refine g_iload_n X dX4_rest_66 1 rfl rfl ?_
          refine g_goto X 72 dX4_rest_67 (by decide) ?_
          refine g_iadd X dX4_rest_72 ?_
          refine g_mcallSNi (nA := 1) X (c_X5_held l D cy ad _ _ _ _) kmn_X4_44 kt_X5_held ki_X5 kc_X5_held (by decide +kernel) ⟨rfl, rfl, Nat.le_of_ble_eq_true rfl, Nat.le_of_ble_eq_true rfl⟩ rfl rfl (Nat.le_of_ble_eq_true rfl) dX4_rest_73 ⟨by omega, by omega⟩ (fun r_22 ρ_23 h_24 => ?_)
          obtain ⟨er_22, e9⟩ := h_24
          rw [e9, er_22]
          clear e9
          refine g_iastN X ((1 + 7) + 2) i (by omega) (lM_off (isQ7 (Or.inl rfl))) (by omega) (by decide) dX4_rest_76 (fun ρ_25 eρ_25 => ?_)
          rw [eρ_25, wM_pip (m := 2) (Or.inl rfl) (by omega) (by omega)]
          refine g_aload_n X dX4_rest_77 0 rfl rfl ?_
          refine g_getr X (1 + 7) (by omega) 4 (by decide) ku_X4 kv_X4 kf_X4_21 rfl (lM_f_sang (isQ7 (Or.inl rfl))) dX4_rest_78 ?_
          refine g_iload_n X dX4_rest_81 3 rfl rfl ?_
          refine g_iconst X (v := 0) dX4_rest_82 (by decide) ?_
          refine g_iastN X ((1 + 7) + 4) i (by omega) (lM_sang (isQ7 (Or.inl rfl))) (by omega) (by decide) dX4_rest_83 (fun ρ_26 eρ_26 => ?_)
          rw [eρ_26, wM_pip (m := 4) (Or.inl rfl) (by omega) (by omega)]
          refine g_iincN X i 3 [(3, .int _), (0, .ref _), (1, .int _), (2, .int _)] 3 dX4_rest_84 rfl (by decide) rfl ?_
          refine g_goto X 4 dX4_rest_87 (by decide) ?_
          refine g_ls (ls' := [(0, .ref _), (1, .int _), (2, .int _), (3, .int _)]) [1, 2, 3, 0] rfl ?_
          exact g_eqv (ihi (by omega) trivial) (by simp only [sumI, cmB, *, ↓reduceIte, Int32.add_zero]) (by subst_vars; congr 1; funext k j; simp only [up2_e, ntR, cmB, par] at *; grind (splits := 20)) rfl rfl
      · skip
        refine g_aload_n X dX4_rest_30 0 rfl rfl ?_
        refine g_getr X (1 + 7) (by omega) 3 (by decide) ku_X4 kv_X4 kf_X4_18 rfl (lM_f_cri (isQ7 (Or.inl rfl))) dX4_rest_31 ?_
        refine g_iload_n X dX4_rest_34 3 rfl rfl ?_
        refine g_ialdN X ((1 + 7) + 3) i (by omega) (lM_cri (isQ7 (Or.inl rfl))) (by omega) (by decide) dX4_rest_35 ?_
        rw [rM_c (Or.inl rfl) (by omega)]
        rw [show ρa (1 + 3) i = ρ (1 + 3) i by rw [eρa]; simp [ntR]]
        refine g_if_ne X 49 dX4_rest_36 (by decide) (fun c_27 => ?_) (fun c_27 => ?_)
        · skip
          refine g_aload_n X dX4_rest_49 0 rfl rfl ?_
          refine g_getr X (1 + 7) (by omega) 2 (by decide) ku_X4 kv_X4 kf_X4_15 rfl (lM_f_off (isQ7 (Or.inl rfl))) dX4_rest_50 ?_
          refine g_iload_n X dX4_rest_53 3 rfl rfl ?_
          refine g_aload_n X dX4_rest_54 0 rfl rfl ?_
          refine g_getr X (1 + 7) (by omega) 2 (by decide) ku_X4 kv_X4 kf_X4_15 rfl (lM_f_off (isQ7 (Or.inl rfl))) dX4_rest_55 ?_
          refine g_iload_n X dX4_rest_58 3 rfl rfl ?_
          refine g_ialdN X ((1 + 7) + 2) i (by omega) (lM_off (isQ7 (Or.inl rfl))) (by omega) (by decide) dX4_rest_59 ?_
          rw [rM_o (Or.inl rfl) (by omega)]
          refine g_iload_n X dX4_rest_60 3 rfl rfl ?_
          refine g_iconst X (v := 2) dX4_rest_61 (by decide) ?_
          refine g_irem X dX4_rest_62 (by decide) ?_
          rw [remN (by omega)]
          refine g_if_ne X 70 dX4_rest_63 (by decide) (fun c_28 => ?_) (fun c_28 => ?_)
          · skip
            refine g_iload_n X dX4_rest_70 1 rfl rfl ?_
            refine g_ineg X dX4_rest_71 ?_
            refine g_iadd X dX4_rest_72 ?_
            refine g_mcallSNi (nA := 1) X (c_X5_held l D cy ad _ _ _ _) kmn_X4_44 kt_X5_held ki_X5 kc_X5_held (by decide +kernel) ⟨rfl, rfl, Nat.le_of_ble_eq_true rfl, Nat.le_of_ble_eq_true rfl⟩ rfl rfl (Nat.le_of_ble_eq_true rfl) dX4_rest_73 ⟨by omega, by omega⟩ (fun r_29 ρ_30 h_31 => ?_)
            obtain ⟨er_29, e9⟩ := h_31
            rw [e9, er_29]
            clear e9
            refine g_iastN X ((1 + 7) + 2) i (by omega) (lM_off (isQ7 (Or.inl rfl))) (by omega) (by decide) dX4_rest_76 (fun ρ_32 eρ_32 => ?_)
            rw [eρ_32, wM_pip (m := 2) (Or.inl rfl) (by omega) (by omega)]
            refine g_aload_n X dX4_rest_77 0 rfl rfl ?_
            refine g_getr X (1 + 7) (by omega) 4 (by decide) ku_X4 kv_X4 kf_X4_21 rfl (lM_f_sang (isQ7 (Or.inl rfl))) dX4_rest_78 ?_
            refine g_iload_n X dX4_rest_81 3 rfl rfl ?_
            refine g_iconst X (v := 0) dX4_rest_82 (by decide) ?_
            refine g_iastN X ((1 + 7) + 4) i (by omega) (lM_sang (isQ7 (Or.inl rfl))) (by omega) (by decide) dX4_rest_83 (fun ρ_33 eρ_33 => ?_)
            rw [eρ_33, wM_pip (m := 4) (Or.inl rfl) (by omega) (by omega)]
            refine g_iincN X i 3 [(3, .int _), (0, .ref _), (1, .int _), (2, .int _)] 3 dX4_rest_84 rfl (by decide) rfl ?_
            refine g_goto X 4 dX4_rest_87 (by decide) ?_
            refine g_ls (ls' := [(0, .ref _), (1, .int _), (2, .int _), (3, .int _)]) [1, 2, 3, 0] rfl ?_
            exact g_eqv (ihi (by omega) trivial) (by simp only [sumI, cmB, *, ↓reduceIte, Int32.add_zero]) (by subst_vars; congr 1; funext k j; simp only [up2_e, ntR, cmB, par] at *; grind (splits := 20)) rfl rfl
          · skip
            refine g_iload_n X dX4_rest_66 1 rfl rfl ?_
            refine g_goto X 72 dX4_rest_67 (by decide) ?_
            refine g_iadd X dX4_rest_72 ?_
            refine g_mcallSNi (nA := 1) X (c_X5_held l D cy ad _ _ _ _) kmn_X4_44 kt_X5_held ki_X5 kc_X5_held (by decide +kernel) ⟨rfl, rfl, Nat.le_of_ble_eq_true rfl, Nat.le_of_ble_eq_true rfl⟩ rfl rfl (Nat.le_of_ble_eq_true rfl) dX4_rest_73 ⟨by omega, by omega⟩ (fun r_34 ρ_35 h_36 => ?_)
            obtain ⟨er_34, e9⟩ := h_36
            rw [e9, er_34]
            clear e9
            refine g_iastN X ((1 + 7) + 2) i (by omega) (lM_off (isQ7 (Or.inl rfl))) (by omega) (by decide) dX4_rest_76 (fun ρ_37 eρ_37 => ?_)
            rw [eρ_37, wM_pip (m := 2) (Or.inl rfl) (by omega) (by omega)]
            refine g_aload_n X dX4_rest_77 0 rfl rfl ?_
            refine g_getr X (1 + 7) (by omega) 4 (by decide) ku_X4 kv_X4 kf_X4_21 rfl (lM_f_sang (isQ7 (Or.inl rfl))) dX4_rest_78 ?_
            refine g_iload_n X dX4_rest_81 3 rfl rfl ?_
            refine g_iconst X (v := 0) dX4_rest_82 (by decide) ?_
            refine g_iastN X ((1 + 7) + 4) i (by omega) (lM_sang (isQ7 (Or.inl rfl))) (by omega) (by decide) dX4_rest_83 (fun ρ_38 eρ_38 => ?_)
            rw [eρ_38, wM_pip (m := 4) (Or.inl rfl) (by omega) (by omega)]
            refine g_iincN X i 3 [(3, .int _), (0, .ref _), (1, .int _), (2, .int _)] 3 dX4_rest_84 rfl (by decide) rfl ?_
            refine g_goto X 4 dX4_rest_87 (by decide) ?_
            refine g_ls (ls' := [(0, .ref _), (1, .int _), (2, .int _), (3, .int _)]) [1, 2, 3, 0] rfl ?_
            exact g_eqv (ihi (by omega) trivial) (by simp only [sumI, cmB, *, ↓reduceIte, Int32.add_zero]) (by subst_vars; congr 1; funext k j; simp only [up2_e, ntR, cmB, par] at *; grind (splits := 20)) rfl rfl
        · skip
          refine g_aload_n X dX4_rest_39 0 rfl rfl ?_
          refine g_getr X (1 + 7) (by omega) 3 (by decide) ku_X4 kv_X4 kf_X4_18 rfl (lM_f_cri (isQ7 (Or.inl rfl))) dX4_rest_40 ?_
          refine g_iload_n X dX4_rest_43 3 rfl rfl ?_
          refine g_iconst X (v := 1) dX4_rest_44 (by decide) ?_
          refine g_iastN X ((1 + 7) + 3) i (by omega) (lM_cri (isQ7 (Or.inl rfl))) (by omega) (by decide) dX4_rest_45 (fun ρ_39 eρ_39 => ?_)
          rw [eρ_39, wM_pip (m := 3) (Or.inl rfl) (by omega) (by omega)]
          refine g_iinc X (_ + 1) [(2, .int _), (0, .ref _), (1, .int _), (3, .int _)] 2 dX4_rest_46 rfl rfl (by decide) rfl ?_
          refine g_aload_n X dX4_rest_49 1 rfl rfl ?_
          refine g_getr X (1 + 7) (by omega) 2 (by decide) ku_X4 kv_X4 kf_X4_15 rfl (lM_f_off (isQ7 (Or.inl rfl))) dX4_rest_50 ?_
          refine g_iload_n X dX4_rest_53 3 rfl rfl ?_
          refine g_aload_n X dX4_rest_54 1 rfl rfl ?_
          refine g_getr X (1 + 7) (by omega) 2 (by decide) ku_X4 kv_X4 kf_X4_15 rfl (lM_f_off (isQ7 (Or.inl rfl))) dX4_rest_55 ?_
          refine g_iload_n X dX4_rest_58 3 rfl rfl ?_
          refine g_ialdN X ((1 + 7) + 2) i (by omega) (lM_off (isQ7 (Or.inl rfl))) (by omega) (by decide) dX4_rest_59 ?_
          rw [rM_o (Or.inl rfl) (by omega)]
          refine g_iload_n X dX4_rest_60 3 rfl rfl ?_
          refine g_iconst X (v := 2) dX4_rest_61 (by decide) ?_
          refine g_irem X dX4_rest_62 (by decide) ?_
          rw [remN (by omega)]
          refine g_if_ne X 70 dX4_rest_63 (by decide) (fun c_40 => ?_) (fun c_40 => ?_)
          · skip
            refine g_iload_n X dX4_rest_70 2 rfl rfl ?_
            refine g_ineg X dX4_rest_71 ?_
            refine g_iadd X dX4_rest_72 ?_
            refine g_mcallSNi (nA := 1) X (c_X5_held l D cy ad _ _ _ _) kmn_X4_44 kt_X5_held ki_X5 kc_X5_held (by decide +kernel) ⟨rfl, rfl, Nat.le_of_ble_eq_true rfl, Nat.le_of_ble_eq_true rfl⟩ rfl rfl (Nat.le_of_ble_eq_true rfl) dX4_rest_73 ⟨by omega, by omega⟩ (fun r_41 ρ_42 h_43 => ?_)
            obtain ⟨er_41, e9⟩ := h_43
            rw [e9, er_41]
            clear e9
            refine g_iastN X ((1 + 7) + 2) i (by omega) (lM_off (isQ7 (Or.inl rfl))) (by omega) (by decide) dX4_rest_76 (fun ρ_44 eρ_44 => ?_)
            rw [eρ_44, wM_pip (m := 2) (Or.inl rfl) (by omega) (by omega)]
            refine g_aload_n X dX4_rest_77 1 rfl rfl ?_
            refine g_getr X (1 + 7) (by omega) 4 (by decide) ku_X4 kv_X4 kf_X4_21 rfl (lM_f_sang (isQ7 (Or.inl rfl))) dX4_rest_78 ?_
            refine g_iload_n X dX4_rest_81 3 rfl rfl ?_
            refine g_iconst X (v := 0) dX4_rest_82 (by decide) ?_
            refine g_iastN X ((1 + 7) + 4) i (by omega) (lM_sang (isQ7 (Or.inl rfl))) (by omega) (by decide) dX4_rest_83 (fun ρ_45 eρ_45 => ?_)
            rw [eρ_45, wM_pip (m := 4) (Or.inl rfl) (by omega) (by omega)]
            refine g_iincN X i 3 [(3, .int _), (2, .int _), (0, .ref _), (1, .int _)] 3 dX4_rest_84 rfl (by decide) rfl ?_
            refine g_goto X 4 dX4_rest_87 (by decide) ?_
            refine g_ls (ls' := [(0, .ref _), (1, .int _), (2, .int _), (3, .int _)]) [2, 3, 1, 0] rfl ?_
            exact g_eqv (ihi (by omega) trivial) (by simp only [sumI, cmB, *, ↓reduceIte, Int32.add_zero]) (by subst_vars; congr 1; funext k j; simp only [up2_e, ntR, cmB, par] at *; grind (splits := 20)) rfl rfl
          · skip
            refine g_iload_n X dX4_rest_66 2 rfl rfl ?_
            refine g_goto X 72 dX4_rest_67 (by decide) ?_
            refine g_iadd X dX4_rest_72 ?_
            refine g_mcallSNi (nA := 1) X (c_X5_held l D cy ad _ _ _ _) kmn_X4_44 kt_X5_held ki_X5 kc_X5_held (by decide +kernel) ⟨rfl, rfl, Nat.le_of_ble_eq_true rfl, Nat.le_of_ble_eq_true rfl⟩ rfl rfl (Nat.le_of_ble_eq_true rfl) dX4_rest_73 ⟨by omega, by omega⟩ (fun r_46 ρ_47 h_48 => ?_)
            obtain ⟨er_46, e9⟩ := h_48
            rw [e9, er_46]
            clear e9
            refine g_iastN X ((1 + 7) + 2) i (by omega) (lM_off (isQ7 (Or.inl rfl))) (by omega) (by decide) dX4_rest_76 (fun ρ_49 eρ_49 => ?_)
            rw [eρ_49, wM_pip (m := 2) (Or.inl rfl) (by omega) (by omega)]
            refine g_aload_n X dX4_rest_77 1 rfl rfl ?_
            refine g_getr X (1 + 7) (by omega) 4 (by decide) ku_X4 kv_X4 kf_X4_21 rfl (lM_f_sang (isQ7 (Or.inl rfl))) dX4_rest_78 ?_
            refine g_iload_n X dX4_rest_81 3 rfl rfl ?_
            refine g_iconst X (v := 0) dX4_rest_82 (by decide) ?_
            refine g_iastN X ((1 + 7) + 4) i (by omega) (lM_sang (isQ7 (Or.inl rfl))) (by omega) (by decide) dX4_rest_83 (fun ρ_50 eρ_50 => ?_)
            rw [eρ_50, wM_pip (m := 4) (Or.inl rfl) (by omega) (by omega)]
            refine g_iincN X i 3 [(3, .int _), (2, .int _), (0, .ref _), (1, .int _)] 3 dX4_rest_84 rfl (by decide) rfl ?_
            refine g_goto X 4 dX4_rest_87 (by decide) ?_
            refine g_ls (ls' := [(0, .ref _), (1, .int _), (2, .int _), (3, .int _)]) [2, 3, 1, 0] rfl ?_
            exact g_eqv (ihi (by omega) trivial) (by simp only [sumI, cmB, *, ↓reduceIte, Int32.add_zero]) (by subst_vars; congr 1; funext k j; simp only [up2_e, ntR, cmB, par] at *; grind (splits := 20)) rfl rfl

set_option maxHeartbeats 1000000 in
set_option maxRecDepth 100000 in
theorem c_X4_rest_a (l : Launch) (D : va_G) (cy : Nat → ClassId) (ad : Nat → Nat) (ρ : Nat → Nat → Int32) (th a : Int32) (u : Int32) : gMI l yX4_rest cX4_rest 4 (some .int) { frames := 2, cells := 0, slots := 0, locals := 41 } D cy 18 ad (cM ad cy) [.ref (ad (6 + 7)), .int u] (rM ρ th a) (fun r μ1 => r = sumI (cmB ρ 6) 12 ∧ μ1 = rM (ntR ρ 6 u 12) th (a + 1)) 0 0 := by
  refine gMI_of (ls := [(0, .ref (ad (6 + 7))), (1, .int u)]) RX4 rfl (by decide +kernel) (Nat.le_of_ble_eq_true rfl) rfl ?_
  intro p e s m args below meth c A X hr hlk hnm
  refine g_iconst X (v := 0) dX4_rest_0 (by decide) ?_
  refine g_istore_n X [(2, .int _), (0, .ref _), (1, .int _)] dX4_rest_1 rfl (by decide) rfl ?_
  refine g_iconst X (v := 0) dX4_rest_2 (by decide) ?_
  refine g_istore_n X [(3, .int _), (2, .int _), (0, .ref _), (1, .int _)] dX4_rest_3 rfl (by decide) rfl ?_
  refine g_ls (ls' := [(0, .ref _), (1, .int _), (2, .int _), (3, .int _)]) [2, 3, 1, 0] rfl ?_
  refine g_loop (fun _ => True) (fun i => rM (ntR ρ 6 u i) th a) (fun i => [(0, .ref (ad (6 + 7))), (1, .int u), (2, .int (sumI (cmB ρ 6) i)), (3, .int (nI i))]) (fun _ => 0) (fun _ => 0) 12 0 trivial (by omega) rfl (by rw [show ntR ρ 6 u 0 = ρ by funext k j; simp [ntR]]) rfl rfl (fun i h0i hi hIi ihi => ?_)
  obtain ⟨ρa, eρa⟩ : ∃ ρz, ρz = ntR ρ 6 u i := ⟨_, rfl⟩
  rw [← eρa]
  refine g_iload_n X dX4_rest_4 3 rfl rfl ?_
  refine g_bipush X (v := 12) dX4_rest_5 (by decide) ?_
  refine g_icmp_geN X i 12 90 (by omega) (by omega) dX4_rest_7 (by decide) (fun c_1 => ?_) (fun c_1 => ?_)
  · skip
    have h12 : i = 12 := by omega
    refine g_aload_n X dX4_rest_90 0 rfl rfl ?_
    refine g_dup X dX4_rest_91 rfl ?_
    refine g_geti X (6 + 7) (by omega) 0 (by decide) ku_X4 kv_X4 kf_X4_24 rfl (lM_f_day (isQ7 (Or.inr rfl))) dX4_rest_92 ?_
    rw [rM_day2]
    skip
    refine g_iconst X (v := 1) dX4_rest_95 (by decide) ?_
    refine g_iadd X dX4_rest_96 ?_
    refine g_puti X (6 + 7) (by omega) 0 (by decide) ku_X4 kv_X4 kf_X4_24 rfl tyX4 tyX4_ok nmX4 rfl (by decide +kernel) (lM_f_day (isQ7 (Or.inr rfl))) dX4_rest_97 (fun ρ_2 eρ_2 => ?_)
    rw [eρ_2, wM_day2]
    refine g_iload_n X dX4_rest_100 2 rfl rfl ?_
    exact g_iret X hr hlk (by omega) (by omega) dX4_rest_101 (by subst_vars; exact ⟨rfl, rfl⟩)
  · skip
    refine g_aload_n X dX4_rest_10 0 rfl rfl ?_
    refine g_getr X (6 + 7) (by omega) 1 (by decide) ku_X4 kv_X4 kf_X4_9 rfl (lM_f_worn (isQ7 (Or.inr rfl))) dX4_rest_11 ?_
    refine g_iload_n X dX4_rest_14 3 rfl rfl ?_
    refine g_ialdN X ((6 + 7) + 1) i (by omega) (lM_worn (isQ7 (Or.inr rfl))) (by omega) (by decide) dX4_rest_15 ?_
    rw [rM_w (Or.inr rfl) (by omega)]
    rw [show ρa (6 + 1) i = ρ (6 + 1) i by rw [eρa]; simp [ntR]]
    refine g_bipush X (v := 10) dX4_rest_16 (by decide) ?_
    refine g_icmp_lt X 49 dX4_rest_18 (by decide) (fun c_3 => ?_) (fun c_3 => ?_)
    · skip
      refine g_aload_n X dX4_rest_49 0 rfl rfl ?_
      refine g_getr X (6 + 7) (by omega) 2 (by decide) ku_X4 kv_X4 kf_X4_15 rfl (lM_f_off (isQ7 (Or.inr rfl))) dX4_rest_50 ?_
      refine g_iload_n X dX4_rest_53 3 rfl rfl ?_
      refine g_aload_n X dX4_rest_54 0 rfl rfl ?_
      refine g_getr X (6 + 7) (by omega) 2 (by decide) ku_X4 kv_X4 kf_X4_15 rfl (lM_f_off (isQ7 (Or.inr rfl))) dX4_rest_55 ?_
      refine g_iload_n X dX4_rest_58 3 rfl rfl ?_
      refine g_ialdN X ((6 + 7) + 2) i (by omega) (lM_off (isQ7 (Or.inr rfl))) (by omega) (by decide) dX4_rest_59 ?_
      rw [rM_o (Or.inr rfl) (by omega)]
      refine g_iload_n X dX4_rest_60 3 rfl rfl ?_
      refine g_iconst X (v := 2) dX4_rest_61 (by decide) ?_
      refine g_irem X dX4_rest_62 (by decide) ?_
      rw [remN (by omega)]
      refine g_if_ne X 70 dX4_rest_63 (by decide) (fun c_4 => ?_) (fun c_4 => ?_)
      · skip
        refine g_iload_n X dX4_rest_70 1 rfl rfl ?_
        refine g_ineg X dX4_rest_71 ?_
        refine g_iadd X dX4_rest_72 ?_
        refine g_mcallSNi (nA := 1) X (c_X5_held l D cy ad _ _ _ _) kmn_X4_44 kt_X5_held ki_X5 kc_X5_held (by decide +kernel) ⟨rfl, rfl, Nat.le_of_ble_eq_true rfl, Nat.le_of_ble_eq_true rfl⟩ rfl rfl (Nat.le_of_ble_eq_true rfl) dX4_rest_73 ⟨by omega, by omega⟩ (fun r_5 ρ_6 h_7 => ?_)
        obtain ⟨er_5, e9⟩ := h_7
        rw [e9, er_5]
        clear e9
        refine g_iastN X ((6 + 7) + 2) i (by omega) (lM_off (isQ7 (Or.inr rfl))) (by omega) (by decide) dX4_rest_76 (fun ρ_8 eρ_8 => ?_)
        rw [eρ_8, wM_pip (m := 2) (Or.inr rfl) (by omega) (by omega)]
        refine g_aload_n X dX4_rest_77 0 rfl rfl ?_
        refine g_getr X (6 + 7) (by omega) 4 (by decide) ku_X4 kv_X4 kf_X4_21 rfl (lM_f_sang (isQ7 (Or.inr rfl))) dX4_rest_78 ?_
        refine g_iload_n X dX4_rest_81 3 rfl rfl ?_
        refine g_iconst X (v := 0) dX4_rest_82 (by decide) ?_
        refine g_iastN X ((6 + 7) + 4) i (by omega) (lM_sang (isQ7 (Or.inr rfl))) (by omega) (by decide) dX4_rest_83 (fun ρ_9 eρ_9 => ?_)
        rw [eρ_9, wM_pip (m := 4) (Or.inr rfl) (by omega) (by omega)]
        refine g_iincN X i 3 [(3, .int _), (0, .ref _), (1, .int _), (2, .int _)] 3 dX4_rest_84 rfl (by decide) rfl ?_
        refine g_goto X 4 dX4_rest_87 (by decide) ?_
        refine g_ls (ls' := [(0, .ref _), (1, .int _), (2, .int _), (3, .int _)]) [1, 2, 3, 0] rfl ?_
        exact g_eqv (ihi (by omega) trivial) (by simp only [sumI, cmB, *, ↓reduceIte, Int32.add_zero]) (by subst_vars; congr 1; funext k j; simp only [up2_e, ntR, cmB, par] at *; grind (splits := 20)) rfl rfl
      · skip
        refine g_iload_n X dX4_rest_66 1 rfl rfl ?_
        refine g_goto X 72 dX4_rest_67 (by decide) ?_
        refine g_iadd X dX4_rest_72 ?_
        refine g_mcallSNi (nA := 1) X (c_X5_held l D cy ad _ _ _ _) kmn_X4_44 kt_X5_held ki_X5 kc_X5_held (by decide +kernel) ⟨rfl, rfl, Nat.le_of_ble_eq_true rfl, Nat.le_of_ble_eq_true rfl⟩ rfl rfl (Nat.le_of_ble_eq_true rfl) dX4_rest_73 ⟨by omega, by omega⟩ (fun r_10 ρ_11 h_12 => ?_)
        obtain ⟨er_10, e9⟩ := h_12
        rw [e9, er_10]
        clear e9
        refine g_iastN X ((6 + 7) + 2) i (by omega) (lM_off (isQ7 (Or.inr rfl))) (by omega) (by decide) dX4_rest_76 (fun ρ_13 eρ_13 => ?_)
        rw [eρ_13, wM_pip (m := 2) (Or.inr rfl) (by omega) (by omega)]
        refine g_aload_n X dX4_rest_77 0 rfl rfl ?_
        refine g_getr X (6 + 7) (by omega) 4 (by decide) ku_X4 kv_X4 kf_X4_21 rfl (lM_f_sang (isQ7 (Or.inr rfl))) dX4_rest_78 ?_
        refine g_iload_n X dX4_rest_81 3 rfl rfl ?_
        refine g_iconst X (v := 0) dX4_rest_82 (by decide) ?_
        refine g_iastN X ((6 + 7) + 4) i (by omega) (lM_sang (isQ7 (Or.inr rfl))) (by omega) (by decide) dX4_rest_83 (fun ρ_14 eρ_14 => ?_)
        rw [eρ_14, wM_pip (m := 4) (Or.inr rfl) (by omega) (by omega)]
        refine g_iincN X i 3 [(3, .int _), (0, .ref _), (1, .int _), (2, .int _)] 3 dX4_rest_84 rfl (by decide) rfl ?_
        refine g_goto X 4 dX4_rest_87 (by decide) ?_
        refine g_ls (ls' := [(0, .ref _), (1, .int _), (2, .int _), (3, .int _)]) [1, 2, 3, 0] rfl ?_
        exact g_eqv (ihi (by omega) trivial) (by simp only [sumI, cmB, *, ↓reduceIte, Int32.add_zero]) (by subst_vars; congr 1; funext k j; simp only [up2_e, ntR, cmB, par] at *; grind (splits := 20)) rfl rfl
    · skip
      refine g_aload_n X dX4_rest_21 0 rfl rfl ?_
      refine g_getr X (6 + 7) (by omega) 4 (by decide) ku_X4 kv_X4 kf_X4_21 rfl (lM_f_sang (isQ7 (Or.inr rfl))) dX4_rest_22 ?_
      refine g_iload_n X dX4_rest_25 3 rfl rfl ?_
      refine g_ialdN X ((6 + 7) + 4) i (by omega) (lM_sang (isQ7 (Or.inr rfl))) (by omega) (by decide) dX4_rest_26 ?_
      rw [rM_s (Or.inr rfl) (by omega)]
      rw [show ρa (6 + 4) i = ρ (6 + 4) i by rw [eρa]; simp [ntR]]
      refine g_if_ne X 49 dX4_rest_27 (by decide) (fun c_15 => ?_) (fun c_15 => ?_)
      · skip
        refine g_aload_n X dX4_rest_49 0 rfl rfl ?_
        refine g_getr X (6 + 7) (by omega) 2 (by decide) ku_X4 kv_X4 kf_X4_15 rfl (lM_f_off (isQ7 (Or.inr rfl))) dX4_rest_50 ?_
        refine g_iload_n X dX4_rest_53 3 rfl rfl ?_
        refine g_aload_n X dX4_rest_54 0 rfl rfl ?_
        refine g_getr X (6 + 7) (by omega) 2 (by decide) ku_X4 kv_X4 kf_X4_15 rfl (lM_f_off (isQ7 (Or.inr rfl))) dX4_rest_55 ?_
        refine g_iload_n X dX4_rest_58 3 rfl rfl ?_
        refine g_ialdN X ((6 + 7) + 2) i (by omega) (lM_off (isQ7 (Or.inr rfl))) (by omega) (by decide) dX4_rest_59 ?_
        rw [rM_o (Or.inr rfl) (by omega)]
        refine g_iload_n X dX4_rest_60 3 rfl rfl ?_
        refine g_iconst X (v := 2) dX4_rest_61 (by decide) ?_
        refine g_irem X dX4_rest_62 (by decide) ?_
        rw [remN (by omega)]
        refine g_if_ne X 70 dX4_rest_63 (by decide) (fun c_16 => ?_) (fun c_16 => ?_)
        · skip
          refine g_iload_n X dX4_rest_70 1 rfl rfl ?_
          refine g_ineg X dX4_rest_71 ?_
          refine g_iadd X dX4_rest_72 ?_
          refine g_mcallSNi (nA := 1) X (c_X5_held l D cy ad _ _ _ _) kmn_X4_44 kt_X5_held ki_X5 kc_X5_held (by decide +kernel) ⟨rfl, rfl, Nat.le_of_ble_eq_true rfl, Nat.le_of_ble_eq_true rfl⟩ rfl rfl (Nat.le_of_ble_eq_true rfl) dX4_rest_73 ⟨by omega, by omega⟩ (fun r_17 ρ_18 h_19 => ?_)
          obtain ⟨er_17, e9⟩ := h_19
          rw [e9, er_17]
          clear e9
          refine g_iastN X ((6 + 7) + 2) i (by omega) (lM_off (isQ7 (Or.inr rfl))) (by omega) (by decide) dX4_rest_76 (fun ρ_20 eρ_20 => ?_)
          rw [eρ_20, wM_pip (m := 2) (Or.inr rfl) (by omega) (by omega)]
          refine g_aload_n X dX4_rest_77 0 rfl rfl ?_
          refine g_getr X (6 + 7) (by omega) 4 (by decide) ku_X4 kv_X4 kf_X4_21 rfl (lM_f_sang (isQ7 (Or.inr rfl))) dX4_rest_78 ?_
          refine g_iload_n X dX4_rest_81 3 rfl rfl ?_
          refine g_iconst X (v := 0) dX4_rest_82 (by decide) ?_
          refine g_iastN X ((6 + 7) + 4) i (by omega) (lM_sang (isQ7 (Or.inr rfl))) (by omega) (by decide) dX4_rest_83 (fun ρ_21 eρ_21 => ?_)
          rw [eρ_21, wM_pip (m := 4) (Or.inr rfl) (by omega) (by omega)]
          refine g_iincN X i 3 [(3, .int _), (0, .ref _), (1, .int _), (2, .int _)] 3 dX4_rest_84 rfl (by decide) rfl ?_
          refine g_goto X 4 dX4_rest_87 (by decide) ?_
          refine g_ls (ls' := [(0, .ref _), (1, .int _), (2, .int _), (3, .int _)]) [1, 2, 3, 0] rfl ?_
          exact g_eqv (ihi (by omega) trivial) (by simp only [sumI, cmB, *, ↓reduceIte, Int32.add_zero]) (by subst_vars; congr 1; funext k j; simp only [up2_e, ntR, cmB, par] at *; grind (splits := 20)) rfl rfl
        · skip
          refine g_iload_n X dX4_rest_66 1 rfl rfl ?_
          refine g_goto X 72 dX4_rest_67 (by decide) ?_
          refine g_iadd X dX4_rest_72 ?_
          refine g_mcallSNi (nA := 1) X (c_X5_held l D cy ad _ _ _ _) kmn_X4_44 kt_X5_held ki_X5 kc_X5_held (by decide +kernel) ⟨rfl, rfl, Nat.le_of_ble_eq_true rfl, Nat.le_of_ble_eq_true rfl⟩ rfl rfl (Nat.le_of_ble_eq_true rfl) dX4_rest_73 ⟨by omega, by omega⟩ (fun r_22 ρ_23 h_24 => ?_)
          obtain ⟨er_22, e9⟩ := h_24
          rw [e9, er_22]
          clear e9
          refine g_iastN X ((6 + 7) + 2) i (by omega) (lM_off (isQ7 (Or.inr rfl))) (by omega) (by decide) dX4_rest_76 (fun ρ_25 eρ_25 => ?_)
          rw [eρ_25, wM_pip (m := 2) (Or.inr rfl) (by omega) (by omega)]
          refine g_aload_n X dX4_rest_77 0 rfl rfl ?_
          refine g_getr X (6 + 7) (by omega) 4 (by decide) ku_X4 kv_X4 kf_X4_21 rfl (lM_f_sang (isQ7 (Or.inr rfl))) dX4_rest_78 ?_
          refine g_iload_n X dX4_rest_81 3 rfl rfl ?_
          refine g_iconst X (v := 0) dX4_rest_82 (by decide) ?_
          refine g_iastN X ((6 + 7) + 4) i (by omega) (lM_sang (isQ7 (Or.inr rfl))) (by omega) (by decide) dX4_rest_83 (fun ρ_26 eρ_26 => ?_)
          rw [eρ_26, wM_pip (m := 4) (Or.inr rfl) (by omega) (by omega)]
          refine g_iincN X i 3 [(3, .int _), (0, .ref _), (1, .int _), (2, .int _)] 3 dX4_rest_84 rfl (by decide) rfl ?_
          refine g_goto X 4 dX4_rest_87 (by decide) ?_
          refine g_ls (ls' := [(0, .ref _), (1, .int _), (2, .int _), (3, .int _)]) [1, 2, 3, 0] rfl ?_
          exact g_eqv (ihi (by omega) trivial) (by simp only [sumI, cmB, *, ↓reduceIte, Int32.add_zero]) (by subst_vars; congr 1; funext k j; simp only [up2_e, ntR, cmB, par] at *; grind (splits := 20)) rfl rfl
      · skip
        refine g_aload_n X dX4_rest_30 0 rfl rfl ?_
        refine g_getr X (6 + 7) (by omega) 3 (by decide) ku_X4 kv_X4 kf_X4_18 rfl (lM_f_cri (isQ7 (Or.inr rfl))) dX4_rest_31 ?_
        refine g_iload_n X dX4_rest_34 3 rfl rfl ?_
        refine g_ialdN X ((6 + 7) + 3) i (by omega) (lM_cri (isQ7 (Or.inr rfl))) (by omega) (by decide) dX4_rest_35 ?_
        rw [rM_c (Or.inr rfl) (by omega)]
        rw [show ρa (6 + 3) i = ρ (6 + 3) i by rw [eρa]; simp [ntR]]
        refine g_if_ne X 49 dX4_rest_36 (by decide) (fun c_27 => ?_) (fun c_27 => ?_)
        · skip
          refine g_aload_n X dX4_rest_49 0 rfl rfl ?_
          refine g_getr X (6 + 7) (by omega) 2 (by decide) ku_X4 kv_X4 kf_X4_15 rfl (lM_f_off (isQ7 (Or.inr rfl))) dX4_rest_50 ?_
          refine g_iload_n X dX4_rest_53 3 rfl rfl ?_
          refine g_aload_n X dX4_rest_54 0 rfl rfl ?_
          refine g_getr X (6 + 7) (by omega) 2 (by decide) ku_X4 kv_X4 kf_X4_15 rfl (lM_f_off (isQ7 (Or.inr rfl))) dX4_rest_55 ?_
          refine g_iload_n X dX4_rest_58 3 rfl rfl ?_
          refine g_ialdN X ((6 + 7) + 2) i (by omega) (lM_off (isQ7 (Or.inr rfl))) (by omega) (by decide) dX4_rest_59 ?_
          rw [rM_o (Or.inr rfl) (by omega)]
          refine g_iload_n X dX4_rest_60 3 rfl rfl ?_
          refine g_iconst X (v := 2) dX4_rest_61 (by decide) ?_
          refine g_irem X dX4_rest_62 (by decide) ?_
          rw [remN (by omega)]
          refine g_if_ne X 70 dX4_rest_63 (by decide) (fun c_28 => ?_) (fun c_28 => ?_)
          · skip
            refine g_iload_n X dX4_rest_70 1 rfl rfl ?_
            refine g_ineg X dX4_rest_71 ?_
            refine g_iadd X dX4_rest_72 ?_
            refine g_mcallSNi (nA := 1) X (c_X5_held l D cy ad _ _ _ _) kmn_X4_44 kt_X5_held ki_X5 kc_X5_held (by decide +kernel) ⟨rfl, rfl, Nat.le_of_ble_eq_true rfl, Nat.le_of_ble_eq_true rfl⟩ rfl rfl (Nat.le_of_ble_eq_true rfl) dX4_rest_73 ⟨by omega, by omega⟩ (fun r_29 ρ_30 h_31 => ?_)
            obtain ⟨er_29, e9⟩ := h_31
            rw [e9, er_29]
            clear e9
            refine g_iastN X ((6 + 7) + 2) i (by omega) (lM_off (isQ7 (Or.inr rfl))) (by omega) (by decide) dX4_rest_76 (fun ρ_32 eρ_32 => ?_)
            rw [eρ_32, wM_pip (m := 2) (Or.inr rfl) (by omega) (by omega)]
            refine g_aload_n X dX4_rest_77 0 rfl rfl ?_
            refine g_getr X (6 + 7) (by omega) 4 (by decide) ku_X4 kv_X4 kf_X4_21 rfl (lM_f_sang (isQ7 (Or.inr rfl))) dX4_rest_78 ?_
            refine g_iload_n X dX4_rest_81 3 rfl rfl ?_
            refine g_iconst X (v := 0) dX4_rest_82 (by decide) ?_
            refine g_iastN X ((6 + 7) + 4) i (by omega) (lM_sang (isQ7 (Or.inr rfl))) (by omega) (by decide) dX4_rest_83 (fun ρ_33 eρ_33 => ?_)
            rw [eρ_33, wM_pip (m := 4) (Or.inr rfl) (by omega) (by omega)]
            refine g_iincN X i 3 [(3, .int _), (0, .ref _), (1, .int _), (2, .int _)] 3 dX4_rest_84 rfl (by decide) rfl ?_
            refine g_goto X 4 dX4_rest_87 (by decide) ?_
            refine g_ls (ls' := [(0, .ref _), (1, .int _), (2, .int _), (3, .int _)]) [1, 2, 3, 0] rfl ?_
            exact g_eqv (ihi (by omega) trivial) (by simp only [sumI, cmB, *, ↓reduceIte, Int32.add_zero]) (by subst_vars; congr 1; funext k j; simp only [up2_e, ntR, cmB, par] at *; grind (splits := 20)) rfl rfl
          · skip
            refine g_iload_n X dX4_rest_66 1 rfl rfl ?_
            refine g_goto X 72 dX4_rest_67 (by decide) ?_
            refine g_iadd X dX4_rest_72 ?_
            refine g_mcallSNi (nA := 1) X (c_X5_held l D cy ad _ _ _ _) kmn_X4_44 kt_X5_held ki_X5 kc_X5_held (by decide +kernel) ⟨rfl, rfl, Nat.le_of_ble_eq_true rfl, Nat.le_of_ble_eq_true rfl⟩ rfl rfl (Nat.le_of_ble_eq_true rfl) dX4_rest_73 ⟨by omega, by omega⟩ (fun r_34 ρ_35 h_36 => ?_)
            obtain ⟨er_34, e9⟩ := h_36
            rw [e9, er_34]
            clear e9
            refine g_iastN X ((6 + 7) + 2) i (by omega) (lM_off (isQ7 (Or.inr rfl))) (by omega) (by decide) dX4_rest_76 (fun ρ_37 eρ_37 => ?_)
            rw [eρ_37, wM_pip (m := 2) (Or.inr rfl) (by omega) (by omega)]
            refine g_aload_n X dX4_rest_77 0 rfl rfl ?_
            refine g_getr X (6 + 7) (by omega) 4 (by decide) ku_X4 kv_X4 kf_X4_21 rfl (lM_f_sang (isQ7 (Or.inr rfl))) dX4_rest_78 ?_
            refine g_iload_n X dX4_rest_81 3 rfl rfl ?_
            refine g_iconst X (v := 0) dX4_rest_82 (by decide) ?_
            refine g_iastN X ((6 + 7) + 4) i (by omega) (lM_sang (isQ7 (Or.inr rfl))) (by omega) (by decide) dX4_rest_83 (fun ρ_38 eρ_38 => ?_)
            rw [eρ_38, wM_pip (m := 4) (Or.inr rfl) (by omega) (by omega)]
            refine g_iincN X i 3 [(3, .int _), (0, .ref _), (1, .int _), (2, .int _)] 3 dX4_rest_84 rfl (by decide) rfl ?_
            refine g_goto X 4 dX4_rest_87 (by decide) ?_
            refine g_ls (ls' := [(0, .ref _), (1, .int _), (2, .int _), (3, .int _)]) [1, 2, 3, 0] rfl ?_
            exact g_eqv (ihi (by omega) trivial) (by simp only [sumI, cmB, *, ↓reduceIte, Int32.add_zero]) (by subst_vars; congr 1; funext k j; simp only [up2_e, ntR, cmB, par] at *; grind (splits := 20)) rfl rfl
        · skip
          refine g_aload_n X dX4_rest_39 0 rfl rfl ?_
          refine g_getr X (6 + 7) (by omega) 3 (by decide) ku_X4 kv_X4 kf_X4_18 rfl (lM_f_cri (isQ7 (Or.inr rfl))) dX4_rest_40 ?_
          refine g_iload_n X dX4_rest_43 3 rfl rfl ?_
          refine g_iconst X (v := 1) dX4_rest_44 (by decide) ?_
          refine g_iastN X ((6 + 7) + 3) i (by omega) (lM_cri (isQ7 (Or.inr rfl))) (by omega) (by decide) dX4_rest_45 (fun ρ_39 eρ_39 => ?_)
          rw [eρ_39, wM_pip (m := 3) (Or.inr rfl) (by omega) (by omega)]
          refine g_iinc X (_ + 1) [(2, .int _), (0, .ref _), (1, .int _), (3, .int _)] 2 dX4_rest_46 rfl rfl (by decide) rfl ?_
          refine g_aload_n X dX4_rest_49 1 rfl rfl ?_
          refine g_getr X (6 + 7) (by omega) 2 (by decide) ku_X4 kv_X4 kf_X4_15 rfl (lM_f_off (isQ7 (Or.inr rfl))) dX4_rest_50 ?_
          refine g_iload_n X dX4_rest_53 3 rfl rfl ?_
          refine g_aload_n X dX4_rest_54 1 rfl rfl ?_
          refine g_getr X (6 + 7) (by omega) 2 (by decide) ku_X4 kv_X4 kf_X4_15 rfl (lM_f_off (isQ7 (Or.inr rfl))) dX4_rest_55 ?_
          refine g_iload_n X dX4_rest_58 3 rfl rfl ?_
          refine g_ialdN X ((6 + 7) + 2) i (by omega) (lM_off (isQ7 (Or.inr rfl))) (by omega) (by decide) dX4_rest_59 ?_
          rw [rM_o (Or.inr rfl) (by omega)]
          refine g_iload_n X dX4_rest_60 3 rfl rfl ?_
          refine g_iconst X (v := 2) dX4_rest_61 (by decide) ?_
          refine g_irem X dX4_rest_62 (by decide) ?_
          rw [remN (by omega)]
          refine g_if_ne X 70 dX4_rest_63 (by decide) (fun c_40 => ?_) (fun c_40 => ?_)
          · skip
            refine g_iload_n X dX4_rest_70 2 rfl rfl ?_
            refine g_ineg X dX4_rest_71 ?_
            refine g_iadd X dX4_rest_72 ?_
            refine g_mcallSNi (nA := 1) X (c_X5_held l D cy ad _ _ _ _) kmn_X4_44 kt_X5_held ki_X5 kc_X5_held (by decide +kernel) ⟨rfl, rfl, Nat.le_of_ble_eq_true rfl, Nat.le_of_ble_eq_true rfl⟩ rfl rfl (Nat.le_of_ble_eq_true rfl) dX4_rest_73 ⟨by omega, by omega⟩ (fun r_41 ρ_42 h_43 => ?_)
            obtain ⟨er_41, e9⟩ := h_43
            rw [e9, er_41]
            clear e9
            refine g_iastN X ((6 + 7) + 2) i (by omega) (lM_off (isQ7 (Or.inr rfl))) (by omega) (by decide) dX4_rest_76 (fun ρ_44 eρ_44 => ?_)
            rw [eρ_44, wM_pip (m := 2) (Or.inr rfl) (by omega) (by omega)]
            refine g_aload_n X dX4_rest_77 1 rfl rfl ?_
            refine g_getr X (6 + 7) (by omega) 4 (by decide) ku_X4 kv_X4 kf_X4_21 rfl (lM_f_sang (isQ7 (Or.inr rfl))) dX4_rest_78 ?_
            refine g_iload_n X dX4_rest_81 3 rfl rfl ?_
            refine g_iconst X (v := 0) dX4_rest_82 (by decide) ?_
            refine g_iastN X ((6 + 7) + 4) i (by omega) (lM_sang (isQ7 (Or.inr rfl))) (by omega) (by decide) dX4_rest_83 (fun ρ_45 eρ_45 => ?_)
            rw [eρ_45, wM_pip (m := 4) (Or.inr rfl) (by omega) (by omega)]
            refine g_iincN X i 3 [(3, .int _), (2, .int _), (0, .ref _), (1, .int _)] 3 dX4_rest_84 rfl (by decide) rfl ?_
            refine g_goto X 4 dX4_rest_87 (by decide) ?_
            refine g_ls (ls' := [(0, .ref _), (1, .int _), (2, .int _), (3, .int _)]) [2, 3, 1, 0] rfl ?_
            exact g_eqv (ihi (by omega) trivial) (by simp only [sumI, cmB, *, ↓reduceIte, Int32.add_zero]) (by subst_vars; congr 1; funext k j; simp only [up2_e, ntR, cmB, par] at *; grind (splits := 20)) rfl rfl
          · skip
            refine g_iload_n X dX4_rest_66 2 rfl rfl ?_
            refine g_goto X 72 dX4_rest_67 (by decide) ?_
            refine g_iadd X dX4_rest_72 ?_
            refine g_mcallSNi (nA := 1) X (c_X5_held l D cy ad _ _ _ _) kmn_X4_44 kt_X5_held ki_X5 kc_X5_held (by decide +kernel) ⟨rfl, rfl, Nat.le_of_ble_eq_true rfl, Nat.le_of_ble_eq_true rfl⟩ rfl rfl (Nat.le_of_ble_eq_true rfl) dX4_rest_73 ⟨by omega, by omega⟩ (fun r_46 ρ_47 h_48 => ?_)
            obtain ⟨er_46, e9⟩ := h_48
            rw [e9, er_46]
            clear e9
            refine g_iastN X ((6 + 7) + 2) i (by omega) (lM_off (isQ7 (Or.inr rfl))) (by omega) (by decide) dX4_rest_76 (fun ρ_49 eρ_49 => ?_)
            rw [eρ_49, wM_pip (m := 2) (Or.inr rfl) (by omega) (by omega)]
            refine g_aload_n X dX4_rest_77 1 rfl rfl ?_
            refine g_getr X (6 + 7) (by omega) 4 (by decide) ku_X4 kv_X4 kf_X4_21 rfl (lM_f_sang (isQ7 (Or.inr rfl))) dX4_rest_78 ?_
            refine g_iload_n X dX4_rest_81 3 rfl rfl ?_
            refine g_iconst X (v := 0) dX4_rest_82 (by decide) ?_
            refine g_iastN X ((6 + 7) + 4) i (by omega) (lM_sang (isQ7 (Or.inr rfl))) (by omega) (by decide) dX4_rest_83 (fun ρ_50 eρ_50 => ?_)
            rw [eρ_50, wM_pip (m := 4) (Or.inr rfl) (by omega) (by omega)]
            refine g_iincN X i 3 [(3, .int _), (2, .int _), (0, .ref _), (1, .int _)] 3 dX4_rest_84 rfl (by decide) rfl ?_
            refine g_goto X 4 dX4_rest_87 (by decide) ?_
            refine g_ls (ls' := [(0, .ref _), (1, .int _), (2, .int _), (3, .int _)]) [2, 3, 1, 0] rfl ?_
            exact g_eqv (ihi (by omega) trivial) (by simp only [sumI, cmB, *, ↓reduceIte, Int32.add_zero]) (by subst_vars; congr 1; funext k j; simp only [up2_e, ntR, cmB, par] at *; grind (splits := 20)) rfl rfl

set_option maxHeartbeats 1000000 in
set_option maxRecDepth 100000 in
theorem c_X4_crickets (l : Launch) (D : va_G) (cy : Nat → ClassId) (ad : Nat → Nat) (ρ : Nat → Nat → Int32) (th a : Int32) (b : Nat) (hb : isP b) (h01 : ∀ i, i < 12 → ρ (b + 3) i = 0 ∨ ρ (b + 3) i = 1) : gMI l yX4_crickets cX4_crickets 6 (some .int) { frames := 0, cells := 0, slots := 0, locals := 0 } D cy 18 ad (cM ad cy) [.ref (ad (b + 7))] (rM ρ th a) (fun r μ1 => r = crc ρ b ∧ μ1 = rM ρ th a) 0 0 := by
  refine gMI_of (ls := [(0, .ref (ad (b + 7)))]) RX4 rfl (by decide +kernel) (Nat.le_of_ble_eq_true rfl) rfl ?_
  intro p e s m args below meth c A X hr hlk hnm
  have hb9 := isP_lt hb
  have hb6 : b ≤ 6 := by rcases hb with rfl | rfl <;> decide
  refine g_iconst X (v := 0) dX4_crickets_0 (by decide) ?_
  refine g_istore_n X [(1, .int _), (0, .ref _)] dX4_crickets_1 rfl (by decide) rfl ?_
  refine g_aload_n X dX4_crickets_2 1 rfl rfl ?_
  refine g_getr X (b + 7) (by omega) 3 (by decide) ku_X4 kv_X4 kf_X4_18 rfl (lM_f_cri (isQ7 hb)) dX4_crickets_3 ?_
  refine g_astore_n X [(2, .ref _), (1, .int _), (0, .ref _)] dX4_crickets_6 rfl (by decide) rfl ?_
  refine g_aload_n X dX4_crickets_7 0 rfl rfl ?_
  refine g_alen X ((b + 7) + 3) 0 (by omega) (lM_cri (isQ7 hb)) rfl dX4_crickets_8 ?_
  refine g_istore_n X [(3, .int _), (2, .ref _), (1, .int _), (0, .ref _)] dX4_crickets_9 rfl (by decide) rfl ?_
  refine g_iconst X (v := 0) dX4_crickets_10 (by decide) ?_
  refine g_istore X [(4, .int _), (3, .int _), (2, .ref _), (1, .int _), (0, .ref _)] dX4_crickets_11 (by decide) rfl ?_
  refine g_ls (ls' := [(0, .ref _), (1, .int _), (2, .ref _), (3, .int _), (4, .int _)]) [4, 3, 2, 1, 0] rfl ?_
  refine g_loop (fun _ => True) (fun _ => (rM ρ th a)) (fun i => [(0, .ref (ad (b + 7))), (1, .int (sumI (fun j => b01 (ρ (b + 3) j)) i)), (2, .ref (ad (b + 7 + 3))), (3, .int (nI 12)), (4, .int (nI i))]) (fun _ => 0) (fun _ => 0) 12 0 trivial (by omega) rfl rfl rfl rfl (fun i h0i hi hIi ihi => ?_)
  refine g_iload X dX4_crickets_13 4 rfl ?_
  refine g_iload_n X dX4_crickets_15 3 rfl rfl ?_
  refine g_icmp_geN X i 12 36 (by omega) (by omega) dX4_crickets_16 (by decide) (fun c_1 => ?_) (fun c_1 => ?_)
  · skip
    refine g_iload_n X dX4_crickets_36 1 rfl rfl ?_
    exact g_iret X hr hlk (by omega) (by omega) dX4_crickets_37 (by rw [show i = 12 by omega]; exact ⟨rfl, rfl⟩)
  · skip
    refine g_aload_n X dX4_crickets_19 2 rfl rfl ?_
    refine g_iload X dX4_crickets_20 4 rfl ?_
    refine g_ialdN X ((b + 7) + 3) i (by omega) (lM_cri (isQ7 hb)) (by omega) (by decide) dX4_crickets_22 ?_
    rw [rM_c hb (by omega)]
    refine g_istore X [(5, .int _), (0, .ref _), (1, .int _), (2, .ref _), (3, .int _), (4, .int _)] dX4_crickets_23 (by decide) rfl ?_
    refine g_iload_n X dX4_crickets_25 2 rfl rfl ?_
    refine g_iload X dX4_crickets_26 0 rfl ?_
    refine g_iadd X dX4_crickets_28 ?_
    refine g_istore_n X [(1, .int _), (5, .int _), (0, .ref _), (2, .ref _), (3, .int _), (4, .int _)] dX4_crickets_29 rfl (by decide) rfl ?_
    refine g_iincN X i 4 [(4, .int _), (1, .int _), (5, .int _), (0, .ref _), (2, .ref _), (3, .int _)] 5 dX4_crickets_30 rfl (by decide) rfl ?_
    refine g_goto X 13 dX4_crickets_33 (by decide) ?_
    refine g_ls (ls' := [(0, .ref _), (1, .int _), (2, .ref _), (3, .int _), (4, .int _)]) [3, 1, 4, 5, 0] rfl ?_
    exact g_eqv (ihi (by omega) trivial) (by simp only [sumI, b01]; rcases h01 i (by omega) with q | q <;> rw [q] <;> rfl) (rfl) rfl rfl

set_option maxHeartbeats 1000000 in
set_option maxRecDepth 100000 in
theorem c_X4_allWorn (l : Launch) (D : va_G) (cy : Nat → ClassId) (ad : Nat → Nat) (ρ : Nat → Nat → Int32) (th a : Int32) (b : Nat) (hb : isP b) : gMI l yX4_allWorn cX4_allWorn 6 (some .int) { frames := 0, cells := 0, slots := 0, locals := 0 } D cy 18 ad (cM ad cy) [.ref (ad (b + 7))] (rM ρ th a) (fun r μ1 => r = wrn ρ b ∧ μ1 = rM ρ th a) 0 0 := by
  refine gMI_of (ls := [(0, .ref (ad (b + 7)))]) RX4 rfl (by decide +kernel) (Nat.le_of_ble_eq_true rfl) rfl ?_
  intro p e s m args below meth c A X hr hlk hnm
  have hb9 := isP_lt hb
  have hb6 : b ≤ 6 := by rcases hb with rfl | rfl <;> decide
  refine g_iconst X (v := 0) dX4_allWorn_0 (by decide) ?_
  refine g_istore_n X [(1, .int _), (0, .ref _)] dX4_allWorn_1 rfl (by decide) rfl ?_
  refine g_aload_n X dX4_allWorn_2 1 rfl rfl ?_
  refine g_getr X (b + 7) (by omega) 1 (by decide) ku_X4 kv_X4 kf_X4_9 rfl (lM_f_worn (isQ7 hb)) dX4_allWorn_3 ?_
  refine g_astore_n X [(2, .ref _), (1, .int _), (0, .ref _)] dX4_allWorn_6 rfl (by decide) rfl ?_
  refine g_aload_n X dX4_allWorn_7 0 rfl rfl ?_
  refine g_alen X ((b + 7) + 1) 0 (by omega) (lM_worn (isQ7 hb)) rfl dX4_allWorn_8 ?_
  refine g_istore_n X [(3, .int _), (2, .ref _), (1, .int _), (0, .ref _)] dX4_allWorn_9 rfl (by decide) rfl ?_
  refine g_iconst X (v := 0) dX4_allWorn_10 (by decide) ?_
  refine g_istore X [(4, .int _), (3, .int _), (2, .ref _), (1, .int _), (0, .ref _)] dX4_allWorn_11 (by decide) rfl ?_
  refine g_ls (ls' := [(0, .ref _), (1, .int _), (2, .ref _), (3, .int _), (4, .int _)]) [4, 3, 2, 1, 0] rfl ?_
  refine g_loop (fun _ => True) (fun _ => (rM ρ th a)) (fun i => [(0, .ref (ad (b + 7))), (1, .int (sumI (fun j => ρ (b + 1) j) i)), (2, .ref (ad (b + 7 + 1))), (3, .int (nI 12)), (4, .int (nI i))]) (fun _ => 0) (fun _ => 0) 12 0 trivial (by omega) rfl rfl rfl rfl (fun i h0i hi hIi ihi => ?_)
  refine g_iload X dX4_allWorn_13 4 rfl ?_
  refine g_iload_n X dX4_allWorn_15 3 rfl rfl ?_
  refine g_icmp_geN X i 12 36 (by omega) (by omega) dX4_allWorn_16 (by decide) (fun c_1 => ?_) (fun c_1 => ?_)
  · skip
    refine g_iload_n X dX4_allWorn_36 1 rfl rfl ?_
    exact g_iret X hr hlk (by omega) (by omega) dX4_allWorn_37 (by rw [show i = 12 by omega]; exact ⟨rfl, rfl⟩)
  · skip
    refine g_aload_n X dX4_allWorn_19 2 rfl rfl ?_
    refine g_iload X dX4_allWorn_20 4 rfl ?_
    refine g_ialdN X ((b + 7) + 1) i (by omega) (lM_worn (isQ7 hb)) (by omega) (by decide) dX4_allWorn_22 ?_
    rw [rM_w hb (by omega)]
    refine g_istore X [(5, .int _), (0, .ref _), (1, .int _), (2, .ref _), (3, .int _), (4, .int _)] dX4_allWorn_23 (by decide) rfl ?_
    refine g_iload_n X dX4_allWorn_25 2 rfl rfl ?_
    refine g_iload X dX4_allWorn_26 0 rfl ?_
    refine g_iadd X dX4_allWorn_28 ?_
    refine g_istore_n X [(1, .int _), (5, .int _), (0, .ref _), (2, .ref _), (3, .int _), (4, .int _)] dX4_allWorn_29 rfl (by decide) rfl ?_
    refine g_iincN X i 4 [(4, .int _), (1, .int _), (5, .int _), (0, .ref _), (2, .ref _), (3, .int _)] 5 dX4_allWorn_30 rfl (by decide) rfl ?_
    refine g_goto X 13 dX4_allWorn_33 (by decide) ?_
    refine g_ls (ls' := [(0, .ref _), (1, .int _), (2, .ref _), (3, .int _), (4, .int _)]) [3, 1, 4, 5, 0] rfl ?_
    exact g_eqv (ihi (by omega) trivial) (rfl) (rfl) rfl rfl

set_option maxHeartbeats 1000000 in
set_option maxRecDepth 100000 in
theorem c_X4_allOff (l : Launch) (D : va_G) (cy : Nat → ClassId) (ad : Nat → Nat) (ρ : Nat → Nat → Int32) (th a : Int32) (b : Nat) (hb : isP b) : gMI l yX4_allOff cX4_allOff 6 (some .int) { frames := 1, cells := 0, slots := 0, locals := 21 } D cy 18 ad (cM ad cy) [.ref (ad (b + 7))] (rM ρ th a) (fun r μ1 => r = ofn ρ b ∧ μ1 = rM ρ th a) 0 0 := by
  refine gMI_of (ls := [(0, .ref (ad (b + 7)))]) RX4 rfl (by decide +kernel) (Nat.le_of_ble_eq_true rfl) rfl ?_
  intro p e s m args below meth c A X hr hlk hnm
  have hb9 := isP_lt hb
  have hb6 : b ≤ 6 := by rcases hb with rfl | rfl <;> decide
  refine g_iconst X (v := 0) dX4_allOff_0 (by decide) ?_
  refine g_istore_n X [(1, .int _), (0, .ref _)] dX4_allOff_1 rfl (by decide) rfl ?_
  refine g_aload_n X dX4_allOff_2 1 rfl rfl ?_
  refine g_getr X (b + 7) (by omega) 2 (by decide) ku_X4 kv_X4 kf_X4_15 rfl (lM_f_off (isQ7 hb)) dX4_allOff_3 ?_
  refine g_astore_n X [(2, .ref _), (1, .int _), (0, .ref _)] dX4_allOff_6 rfl (by decide) rfl ?_
  refine g_aload_n X dX4_allOff_7 0 rfl rfl ?_
  refine g_alen X ((b + 7) + 2) 0 (by omega) (lM_off (isQ7 hb)) rfl dX4_allOff_8 ?_
  refine g_istore_n X [(3, .int _), (2, .ref _), (1, .int _), (0, .ref _)] dX4_allOff_9 rfl (by decide) rfl ?_
  refine g_iconst X (v := 0) dX4_allOff_10 (by decide) ?_
  refine g_istore X [(4, .int _), (3, .int _), (2, .ref _), (1, .int _), (0, .ref _)] dX4_allOff_11 (by decide) rfl ?_
  refine g_ls (ls' := [(0, .ref _), (1, .int _), (2, .ref _), (3, .int _), (4, .int _)]) [4, 3, 2, 1, 0] rfl ?_
  refine g_loop (fun _ => True) (fun _ => (rM ρ th a)) (fun i => [(0, .ref (ad (b + 7))), (1, .int (sumI (fun j => ab (ρ (b + 2) j)) i)), (2, .ref (ad (b + 7 + 2))), (3, .int (nI 12)), (4, .int (nI i))]) (fun _ => 0) (fun _ => 0) 12 0 trivial (by omega) rfl rfl rfl rfl (fun i h0i hi hIi ihi => ?_)
  refine g_iload X dX4_allOff_13 4 rfl ?_
  refine g_iload_n X dX4_allOff_15 3 rfl rfl ?_
  refine g_icmp_geN X i 12 39 (by omega) (by omega) dX4_allOff_16 (by decide) (fun c_1 => ?_) (fun c_1 => ?_)
  · skip
    refine g_iload_n X dX4_allOff_39 1 rfl rfl ?_
    exact g_iret X hr hlk (by omega) (by omega) dX4_allOff_40 (by rw [show i = 12 by omega]; exact ⟨rfl, rfl⟩)
  · skip
    refine g_aload_n X dX4_allOff_19 2 rfl rfl ?_
    refine g_iload X dX4_allOff_20 4 rfl ?_
    refine g_ialdN X ((b + 7) + 2) i (by omega) (lM_off (isQ7 hb)) (by omega) (by decide) dX4_allOff_22 ?_
    rw [rM_o hb (by omega)]
    refine g_istore X [(5, .int _), (0, .ref _), (1, .int _), (2, .ref _), (3, .int _), (4, .int _)] dX4_allOff_23 (by decide) rfl ?_
    refine g_iload_n X dX4_allOff_25 2 rfl rfl ?_
    refine g_iload X dX4_allOff_26 0 rfl ?_
    refine g_mabs X km_X4_34 kt_mabs ki_math kc_mabs ⟨Nat.le_of_ble_eq_true rfl, Nat.le_of_ble_eq_true rfl, by omega, by omega⟩ dX4_allOff_28 ?_
    refine g_iadd X dX4_allOff_31 ?_
    refine g_istore_n X [(1, .int _), (5, .int _), (0, .ref _), (2, .ref _), (3, .int _), (4, .int _)] dX4_allOff_32 rfl (by decide) rfl ?_
    refine g_iincN X i 4 [(4, .int _), (1, .int _), (5, .int _), (0, .ref _), (2, .ref _), (3, .int _)] 5 dX4_allOff_33 rfl (by decide) rfl ?_
    refine g_goto X 13 dX4_allOff_36 (by decide) ?_
    refine g_ls (ls' := [(0, .ref _), (1, .int _), (2, .ref _), (3, .int _), (4, .int _)]) [3, 1, 4, 5, 0] rfl ?_
    exact g_eqv (ihi (by omega) trivial) (rfl) (rfl) rfl rfl

set_option maxHeartbeats 1000000 in
set_option maxRecDepth 100000 in
theorem c_X4_become (l : Launch) (D : va_G) (cy : Nat → ClassId) (ad : Nat → Nat) (ρ : Nat → Nat → Int32) (th a : Int32)  : gMV l yX4_become cX4_become 2 none { frames := 1, cells := 0, slots := 0, locals := 30 } D cy 18 ad (cM ad cy) [.ref (ad (6 + 7)), .ref (ad (1 + 7))] (rM ρ th a) (fun μ1 => μ1 = rM (becR ρ 12) th (ρ 0 7)) 0 0 := by
  refine gMV_of (ls := [(0, .ref (ad (6 + 7))), (1, .ref (ad (1 + 7)))]) RX4 rfl (by decide +kernel) (Nat.le_of_ble_eq_true rfl) rfl ?_
  intro p e s m args below meth c A X hr hlk hnm
  refine g_aload_n X dX4_become_0 0 rfl rfl ?_
  refine g_aload_n X dX4_become_1 1 rfl rfl ?_
  refine g_geti X (1 + 7) (by omega) 0 (by decide) ku_X4 kv_X4 kf_X4_24 rfl (lM_f_day (isQ7 (Or.inl rfl))) dX4_become_2 ?_
  rw [rM_day]
  refine g_puti X (6 + 7) (by omega) 0 (by decide) ku_X4 kv_X4 kf_X4_24 rfl tyX4 tyX4_ok nmX4 rfl (by decide +kernel) (lM_f_day (isQ7 (Or.inr rfl))) dX4_become_5 (fun ρ_1 eρ_1 => ?_)
  rw [eρ_1, wM_day2]
  refine g_aload_n X dX4_become_8 1 rfl rfl ?_
  refine g_getr X (1 + 7) (by omega) 1 (by decide) ku_X4 kv_X4 kf_X4_9 rfl (lM_f_worn (isQ7 (Or.inl rfl))) dX4_become_9 ?_
  refine g_iconst X (v := 0) dX4_become_12 (by decide) ?_
  refine g_aload_n X dX4_become_13 0 rfl rfl ?_
  refine g_getr X (6 + 7) (by omega) 1 (by decide) ku_X4 kv_X4 kf_X4_9 rfl (lM_f_worn (isQ7 (Or.inr rfl))) dX4_become_14 ?_
  refine g_iconst X (v := 0) dX4_become_17 (by decide) ?_
  refine g_bipush X (v := 12) dX4_become_18 (by decide) ?_
  refine g_copy X ((1 + 7) + 1) ((6 + 7) + 1) (by omega) (by omega) km_X4_28 kt_copyn kt_copy ki_sys (lM_worn (isQ7 (Or.inl rfl))) (lM_worn (isQ7 (Or.inr rfl))) ⟨Nat.le_of_ble_eq_true rfl, Nat.le_of_ble_eq_true rfl⟩ dX4_become_20 (fun ρ_2 eρ_2 => ?_)
  rw [eρ_2, wM_cp (m := 1) (by omega)]
  refine g_aload_n X dX4_become_23 1 rfl rfl ?_
  refine g_getr X (1 + 7) (by omega) 2 (by decide) ku_X4 kv_X4 kf_X4_15 rfl (lM_f_off (isQ7 (Or.inl rfl))) dX4_become_24 ?_
  refine g_iconst X (v := 0) dX4_become_27 (by decide) ?_
  refine g_aload_n X dX4_become_28 0 rfl rfl ?_
  refine g_getr X (6 + 7) (by omega) 2 (by decide) ku_X4 kv_X4 kf_X4_15 rfl (lM_f_off (isQ7 (Or.inr rfl))) dX4_become_29 ?_
  refine g_iconst X (v := 0) dX4_become_32 (by decide) ?_
  refine g_bipush X (v := 12) dX4_become_33 (by decide) ?_
  refine g_copy X ((1 + 7) + 2) ((6 + 7) + 2) (by omega) (by omega) km_X4_28 kt_copyn kt_copy ki_sys (lM_off (isQ7 (Or.inl rfl))) (lM_off (isQ7 (Or.inr rfl))) ⟨Nat.le_of_ble_eq_true rfl, Nat.le_of_ble_eq_true rfl⟩ dX4_become_35 (fun ρ_3 eρ_3 => ?_)
  rw [eρ_3, wM_cp (m := 2) (by omega)]
  refine g_aload_n X dX4_become_38 1 rfl rfl ?_
  refine g_getr X (1 + 7) (by omega) 3 (by decide) ku_X4 kv_X4 kf_X4_18 rfl (lM_f_cri (isQ7 (Or.inl rfl))) dX4_become_39 ?_
  refine g_iconst X (v := 0) dX4_become_42 (by decide) ?_
  refine g_aload_n X dX4_become_43 0 rfl rfl ?_
  refine g_getr X (6 + 7) (by omega) 3 (by decide) ku_X4 kv_X4 kf_X4_18 rfl (lM_f_cri (isQ7 (Or.inr rfl))) dX4_become_44 ?_
  refine g_iconst X (v := 0) dX4_become_47 (by decide) ?_
  refine g_bipush X (v := 12) dX4_become_48 (by decide) ?_
  refine g_copy X ((1 + 7) + 3) ((6 + 7) + 3) (by omega) (by omega) km_X4_28 kt_copyn kt_copy ki_sys (lM_cri (isQ7 (Or.inl rfl))) (lM_cri (isQ7 (Or.inr rfl))) ⟨Nat.le_of_ble_eq_true rfl, Nat.le_of_ble_eq_true rfl⟩ dX4_become_50 (fun ρ_4 eρ_4 => ?_)
  rw [eρ_4, wM_cp (m := 3) (by omega)]
  refine g_aload_n X dX4_become_53 1 rfl rfl ?_
  refine g_getr X (1 + 7) (by omega) 4 (by decide) ku_X4 kv_X4 kf_X4_21 rfl (lM_f_sang (isQ7 (Or.inl rfl))) dX4_become_54 ?_
  refine g_iconst X (v := 0) dX4_become_57 (by decide) ?_
  refine g_aload_n X dX4_become_58 0 rfl rfl ?_
  refine g_getr X (6 + 7) (by omega) 4 (by decide) ku_X4 kv_X4 kf_X4_21 rfl (lM_f_sang (isQ7 (Or.inr rfl))) dX4_become_59 ?_
  refine g_iconst X (v := 0) dX4_become_62 (by decide) ?_
  refine g_bipush X (v := 12) dX4_become_63 (by decide) ?_
  refine g_copy X ((1 + 7) + 4) ((6 + 7) + 4) (by omega) (by omega) km_X4_28 kt_copyn kt_copy ki_sys (lM_sang (isQ7 (Or.inl rfl))) (lM_sang (isQ7 (Or.inr rfl))) ⟨Nat.le_of_ble_eq_true rfl, Nat.le_of_ble_eq_true rfl⟩ dX4_become_65 (fun ρ_5 eρ_5 => ?_)
  rw [eρ_5, wM_cp (m := 4) (by omega)]
  exact g_vret X hr hlk (by omega) (by omega) dX4_become_68 (by rw [cp_bec])
