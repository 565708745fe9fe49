set_option maxHeartbeats 1000000 in
set_option maxRecDepth 100000 in
theorem c_X0_harmOf (l : Launch) (D : va_G) (cy : Nat → ClassId) (ad : Nat → Nat) (ρ : Nat → Nat → Int32) (b i : Nat) (hb : isP b) (hi : i < 12) : gMI l yX0_harmOf cX0_harmOf 2 (some .int) { frames := 1, cells := 0, slots := 0, locals := 21 } D cy 48 ad (cC ad cy) [.ref (ad b), .int (nI i)] ρ (fun r ρ1 => r = hP ρ b i ∧ ρ1 = ρ) 0 0 := by
  refine gMI_of (ls := [(0, .ref (ad b)), (1, .int (nI i))]) RX0 rfl (by decide +kernel) (Nat.le_of_ble_eq_true rfl) rfl ?_
  intro p e s m args below meth c A X hr hlk hnm
  have hb9 := isP_lt hb
  refine g_aload_n X dX0_harmOf_0 0 rfl rfl ?_
  refine g_getr X b (by omega) 2 (by decide) ku_X0 kv_X0 kf_X0_18 rfl (lC_f_cri hb) dX0_harmOf_1 ?_
  refine g_iload_n X dX0_harmOf_4 1 rfl rfl ?_
  refine g_zaldN X (b + 3) i (by omega) (lC_cri hb) (by omega) (by decide) dX0_harmOf_5 ?_
  refine g_if_eq X 12 dX0_harmOf_6 (by decide) (fun c_1 => ?_) (fun c_1 => ?_)
  · skip
    refine g_bipush X (v := 60) dX0_harmOf_12 (by decide) ?_
    refine g_aload_n X dX0_harmOf_14 0 rfl rfl ?_
    refine g_getr X b (by omega) 1 (by decide) ku_X0 kv_X0 kf_X0_15 rfl (lC_f_off hb) dX0_harmOf_15 ?_
    refine g_iload_n X dX0_harmOf_18 1 rfl rfl ?_
    refine g_ialdN X (b + 2) i (by omega) (lC_off hb) (by omega) (by decide) dX0_harmOf_19 ?_
    refine g_mabs X km_X0_25 kt_mabs ki_math kc_mabs ⟨Nat.le_of_ble_eq_true rfl, Nat.le_of_ble_eq_true rfl, by omega, by omega⟩ dX0_harmOf_20 ?_
    refine g_iconst X (v := 2) dX0_harmOf_23 (by decide) ?_
    refine g_aload_n X dX0_harmOf_24 0 rfl rfl ?_
    refine g_getr X b (by omega) 0 (by decide) ku_X0 kv_X0 kf_X0_9 rfl (lC_f_worn hb) dX0_harmOf_25 ?_
    refine g_iload_n X dX0_harmOf_28 1 rfl rfl ?_
    refine g_ialdN X (b + 1) i (by omega) (lC_worn hb) (by omega) (by decide) dX0_harmOf_29 ?_
    refine g_imul X dX0_harmOf_30 ?_
    refine g_iadd X dX0_harmOf_31 ?_
    refine g_mmin X km_X0_31 kt_mmin ki_math kc_mmin ⟨Nat.le_of_ble_eq_true rfl, Nat.le_of_ble_eq_true rfl, by omega, by omega⟩ dX0_harmOf_32 ?_
    exact g_iret X hr hlk (by omega) (by omega) dX0_harmOf_35 (⟨by simp only [hP, hm]; rw [if_pos c_1]; rfl, rfl⟩)
  · skip
    refine g_bipush X (v := 60) dX0_harmOf_9 (by decide) ?_
    exact g_iret X hr hlk (by omega) (by omega) dX0_harmOf_11 (⟨by simp only [hP, hm]; rw [if_neg c_1], rfl⟩)

set_option maxHeartbeats 1000000 in
set_option maxRecDepth 100000 in
theorem c_X0_wear (l : Launch) (D : va_G) (cy : Nat → ClassId) (ad : Nat → Nat) (ρ : Nat → Nat → Int32) (b i : Nat) (y : Int32) (hb : isP b) (hi : i < 12) : gMV l yX0_wear cX0_wear 3 none { frames := 1, cells := 0, slots := 0, locals := 21 } D cy 48 ad (cC ad cy) [.ref (ad b), .int (nI i), .int y] ρ (fun ρ1 => ρ1 = up2 (up2 ρ (b + 1) i (mnI 30 (ρ (b + 1) i + y))) (b + 4) i 1) 0 0 := by
  refine gMV_of (ls := [(0, .ref (ad b)), (1, .int (nI i)), (2, .int y)]) RX0 rfl (by decide +kernel) (Nat.le_of_ble_eq_true rfl) rfl ?_
  intro p e s m args below meth c A X hr hlk hnm
  have hb9 := isP_lt hb
  refine g_aload_n X dX0_wear_0 0 rfl rfl ?_
  refine g_getr X b (by omega) 0 (by decide) ku_X0 kv_X0 kf_X0_9 rfl (lC_f_worn hb) dX0_wear_1 ?_
  refine g_iload_n X dX0_wear_4 1 rfl rfl ?_
  refine g_bipush X (v := 30) dX0_wear_5 (by decide) ?_
  refine g_aload_n X dX0_wear_7 0 rfl rfl ?_
  refine g_getr X b (by omega) 0 (by decide) ku_X0 kv_X0 kf_X0_9 rfl (lC_f_worn hb) dX0_wear_8 ?_
  refine g_iload_n X dX0_wear_11 1 rfl rfl ?_
  refine g_ialdN X (b + 1) i (by omega) (lC_worn hb) (by omega) (by decide) dX0_wear_12 ?_
  refine g_iload_n X dX0_wear_13 2 rfl rfl ?_
  refine g_iadd X dX0_wear_14 ?_
  refine g_mmin X km_X0_31 kt_mmin ki_math kc_mmin ⟨Nat.le_of_ble_eq_true rfl, Nat.le_of_ble_eq_true rfl, by omega, by omega⟩ dX0_wear_15 ?_
  refine g_iastN X (b + 1) i (by omega) (lC_worn hb) (by omega) (by decide) dX0_wear_18 (fun ρ_1 eρ_1 => ?_)
  refine g_aload_n X dX0_wear_19 0 rfl rfl ?_
  refine g_getr X b (by omega) 3 (by decide) ku_X0 kv_X0 kf_X0_22 rfl (lC_f_pla hb) dX0_wear_20 ?_
  refine g_iload_n X dX0_wear_23 1 rfl rfl ?_
  refine g_iconst X (v := 1) dX0_wear_24 (by decide) ?_
  refine g_zastN X (b + 4) i (by omega) (lC_pla hb) vp_z1 (by omega) (by decide) dX0_wear_25 (fun ρ_2 eρ_2 => ?_)
  exact g_vret X hr hlk (by omega) (by omega) dX0_wear_26 (by subst_vars; first | rfl | exact ⟨rfl, rfl⟩)

set_option maxHeartbeats 1000000 in
set_option maxRecDepth 100000 in
theorem c_X0_shift (l : Launch) (D : va_G) (cy : Nat → ClassId) (ad : Nat → Nat) (ρ : Nat → Nat → Int32) (b i : Nat) (y : Int32) (hb : isP b) (hi : i < 12) : gMV l yX0_shift cX0_shift 3 none { frames := 1, cells := 0, slots := 0, locals := 21 } D cy 48 ad (cC ad cy) [.ref (ad b), .int (nI i), .int y] ρ (fun ρ1 => ρ1 = up2 ρ (b + 2) i (hd (ρ (b + 2) i + y))) 0 0 := by
  refine gMV_of (ls := [(0, .ref (ad b)), (1, .int (nI i)), (2, .int y)]) RX0 rfl (by decide +kernel) (Nat.le_of_ble_eq_true rfl) rfl ?_
  intro p e s m args below meth c A X hr hlk hnm
  have hb9 := isP_lt hb
  refine g_aload_n X dX0_shift_0 0 rfl rfl ?_
  refine g_getr X b (by omega) 1 (by decide) ku_X0 kv_X0 kf_X0_15 rfl (lC_f_off hb) dX0_shift_1 ?_
  refine g_iload_n X dX0_shift_4 1 rfl rfl ?_
  refine g_bipush X (v := -60) dX0_shift_5 (by decide) ?_
  refine g_bipush X (v := 60) dX0_shift_7 (by decide) ?_
  refine g_aload_n X dX0_shift_9 0 rfl rfl ?_
  refine g_getr X b (by omega) 1 (by decide) ku_X0 kv_X0 kf_X0_15 rfl (lC_f_off hb) dX0_shift_10 ?_
  refine g_iload_n X dX0_shift_13 1 rfl rfl ?_
  refine g_ialdN X (b + 2) i (by omega) (lC_off hb) (by omega) (by decide) dX0_shift_14 ?_
  refine g_iload_n X dX0_shift_15 2 rfl rfl ?_
  refine g_iadd X dX0_shift_16 ?_
  refine g_mmin X km_X0_31 kt_mmin ki_math kc_mmin ⟨Nat.le_of_ble_eq_true rfl, Nat.le_of_ble_eq_true rfl, by omega, by omega⟩ dX0_shift_17 ?_
  refine g_mmax X km_X0_35 kt_mmax ki_math kc_mmax ⟨Nat.le_of_ble_eq_true rfl, Nat.le_of_ble_eq_true rfl, by omega, by omega⟩ dX0_shift_20 ?_
  refine g_iastN X (b + 2) i (by omega) (lC_off hb) (by omega) (by decide) dX0_shift_23 (fun ρ_1 eρ_1 => ?_)
  exact g_vret X hr hlk (by omega) (by omega) dX0_shift_24 (by subst_vars; first | rfl | exact ⟨rfl, rfl⟩)

set_option maxHeartbeats 1000000 in
set_option maxRecDepth 100000 in
theorem c_X0_become (l : Launch) (D : va_G) (cy : Nat → ClassId) (ad : Nat → Nat) (ρ : Nat → Nat → Int32) (h01 : ∀ j, j < 12 → (ρ 4 j = 0 ∨ ρ 4 j = 1) ∧ (ρ 5 j = 0 ∨ ρ 5 j = 1)) : gMV l yX0_become cX0_become 3 none { frames := 0, cells := 0, slots := 0, locals := 0 } D cy 48 ad (cC ad cy) [.ref (ad 6), .ref (ad 1)] ρ (fun ρ1 => ρ1 = becR ρ 12) 0 0 := by
  refine gMV_of (ls := [(0, .ref (ad 6)), (1, .ref (ad 1))]) RX0 rfl (by decide +kernel) (Nat.le_of_ble_eq_true rfl) rfl ?_
  intro p e s m args below meth c A X hr hlk hnm
  refine g_iconst X (v := 0) dX0_become_0 (by decide) ?_
  refine g_istore_n X [(2, .int _), (0, .ref _), (1, .ref _)] dX0_become_1 rfl (by decide) rfl ?_
  refine g_ls (ls' := [(0, .ref _), (1, .ref _), (2, .int _)]) [1, 2, 0] rfl ?_
  refine g_loop (fun _ => True) (fun i => becR ρ i) (fun i => [(0, .ref (ad 6)), (1, .ref (ad 1)), (2, .int (nI i))]) (fun _ => 0) (fun _ => 0) 12 0 trivial (by omega) rfl (by funext k j; simp [becR]) rfl rfl (fun i h0i hi hIi ihi => ?_)
  obtain ⟨ρ_1, eρ_1⟩ : ∃ ρz, ρz = becR ρ i := ⟨_, rfl⟩
  rw [← eρ_1]
  refine g_iload_n X dX0_become_2 2 rfl rfl ?_
  refine g_bipush X (v := 12) dX0_become_3 (by decide) ?_
  refine g_icmp_geN X i 12 62 (by omega) (by omega) dX0_become_5 (by decide) (fun c_2 => ?_) (fun c_2 => ?_)
  · skip
    exact g_vret X hr hlk (by omega) (by omega) dX0_become_62 (by subst_vars; rw [show i = 12 by omega])
  · skip
    refine g_aload_n X dX0_become_8 0 rfl rfl ?_
    refine g_getr X 6 (by omega) 0 (by decide) ku_X0 kv_X0 kf_X0_9 rfl (lC_f_worn (Or.inr rfl)) dX0_become_9 ?_
    refine g_iload_n X dX0_become_12 2 rfl rfl ?_
    refine g_aload_n X dX0_become_13 1 rfl rfl ?_
    refine g_getr X 1 (by omega) 0 (by decide) ku_X0 kv_X0 kf_X0_9 rfl (lC_f_worn (Or.inl rfl)) dX0_become_14 ?_
    refine g_iload_n X dX0_become_17 2 rfl rfl ?_
    refine g_ialdN X (1 + 1) i (by omega) (lC_worn (Or.inl rfl)) (by omega) (by decide) dX0_become_18 ?_
    refine g_iastN X (6 + 1) i (by omega) (lC_worn (Or.inr rfl)) (by omega) (by decide) dX0_become_19 (fun ρ_3 eρ_3 => ?_)
    refine g_aload_n X dX0_become_20 0 rfl rfl ?_
    refine g_getr X 6 (by omega) 1 (by decide) ku_X0 kv_X0 kf_X0_15 rfl (lC_f_off (Or.inr rfl)) dX0_become_21 ?_
    refine g_iload_n X dX0_become_24 2 rfl rfl ?_
    refine g_aload_n X dX0_become_25 1 rfl rfl ?_
    refine g_getr X 1 (by omega) 1 (by decide) ku_X0 kv_X0 kf_X0_15 rfl (lC_f_off (Or.inl rfl)) dX0_become_26 ?_
    refine g_iload_n X dX0_become_29 2 rfl rfl ?_
    refine g_ialdN X (1 + 2) i (by omega) (lC_off (Or.inl rfl)) (by omega) (by decide) dX0_become_30 ?_
    refine g_iastN X (6 + 2) i (by omega) (lC_off (Or.inr rfl)) (by omega) (by decide) dX0_become_31 (fun ρ_4 eρ_4 => ?_)
    refine g_aload_n X dX0_become_32 0 rfl rfl ?_
    refine g_getr X 6 (by omega) 2 (by decide) ku_X0 kv_X0 kf_X0_18 rfl (lC_f_cri (Or.inr rfl)) dX0_become_33 ?_
    refine g_iload_n X dX0_become_36 2 rfl rfl ?_
    refine g_aload_n X dX0_become_37 1 rfl rfl ?_
    refine g_getr X 1 (by omega) 2 (by decide) ku_X0 kv_X0 kf_X0_18 rfl (lC_f_cri (Or.inl rfl)) dX0_become_38 ?_
    refine g_iload_n X dX0_become_41 2 rfl rfl ?_
    refine g_zaldN X (1 + 3) i (by omega) (lC_cri (Or.inl rfl)) (by omega) (by decide) dX0_become_42 ?_
    refine g_zastN X (6 + 3) i (by omega) (lC_cri (Or.inr rfl)) (vp_z01 (by subst_vars; simp only [up2_e, becR]; have := h01 i (by omega); simp; exact this.1)) (by omega) (by decide) dX0_become_43 (fun ρ_5 eρ_5 => ?_)
    refine g_aload_n X dX0_become_44 0 rfl rfl ?_
    refine g_getr X 6 (by omega) 3 (by decide) ku_X0 kv_X0 kf_X0_22 rfl (lC_f_pla (Or.inr rfl)) dX0_become_45 ?_
    refine g_iload_n X dX0_become_48 2 rfl rfl ?_
    refine g_aload_n X dX0_become_49 1 rfl rfl ?_
    refine g_getr X 1 (by omega) 3 (by decide) ku_X0 kv_X0 kf_X0_22 rfl (lC_f_pla (Or.inl rfl)) dX0_become_50 ?_
    refine g_iload_n X dX0_become_53 2 rfl rfl ?_
    refine g_zaldN X (1 + 4) i (by omega) (lC_pla (Or.inl rfl)) (by omega) (by decide) dX0_become_54 ?_
    refine g_zastN X (6 + 4) i (by omega) (lC_pla (Or.inr rfl)) (vp_z01 (by subst_vars; simp only [up2_e, becR]; have := h01 i (by omega); simp; exact this.2)) (by omega) (by decide) dX0_become_55 (fun ρ_6 eρ_6 => ?_)
    refine g_iincN X i 2 [(2, .int _), (0, .ref _), (1, .ref _)] 2 dX0_become_56 rfl (by decide) rfl ?_
    refine g_goto X 2 dX0_become_59 (by decide) ?_
    refine g_ls (ls' := [(0, .ref _), (1, .ref _), (2, .int _)]) [1, 2, 0] rfl ?_
    exact g_eqv (ihi (by omega) trivial) (rfl) (by subst_vars; funext k j; simp only [up2_e, becR]; grind) rfl rfl

set_option maxHeartbeats 1000000 in
set_option maxRecDepth 100000 in
theorem c_X0_passNight (l : Launch) (D : va_G) (cy : Nat → ClassId) (ad : Nat → Nat) (ρ : Nat → Nat → Int32) (b : Nat) (d : Int32) (hb : isP b) : gMI l yX0_passNight cX0_passNight 4 (some .int) { frames := 2, cells := 0, slots := 0, locals := 43 } D cy 48 ad (cC ad cy) [.ref (ad b), .int d] ρ (fun r ρ1 => r = sumI (cmB ρ b) 12 ∧ ρ1 = ntR ρ b d 12) 0 0 := by
  refine gMI_of (ls := [(0, .ref (ad b)), (1, .int d)]) RX0 rfl (by decide +kernel) (Nat.le_of_ble_eq_true rfl) rfl ?_
  intro p e s m args below meth c A X hr hlk hnm
  have hb9 := isP_lt hb
  refine g_iconst X (v := 0) dX0_passNight_0 (by decide) ?_
  refine g_istore_n X [(2, .int _), (0, .ref _), (1, .int _)] dX0_passNight_1 rfl (by decide) rfl ?_
  refine g_iconst X (v := 0) dX0_passNight_2 (by decide) ?_
  refine g_istore_n X [(3, .int _), (2, .int _), (0, .ref _), (1, .int _)] dX0_passNight_3 rfl (by decide) rfl ?_
  refine g_ls (ls' := [(0, .ref _), (1, .int _), (2, .int _), (3, .int _)]) [2, 3, 1, 0] rfl ?_
  refine g_loop (fun _ => True) (fun i => ntR ρ b d i) (fun i => [(0, .ref (ad b)), (1, .int d), (2, .int (sumI (cmB ρ b) i)), (3, .int (nI i))]) (fun _ => 0) (fun _ => 0) 12 0 trivial (by omega) rfl (by funext k j; simp [ntR]) rfl rfl (fun i h0i hi hIi ihi => ?_)
  obtain ⟨ρ_1, eρ_1⟩ : ∃ ρz, ρz = ntR ρ b d i := ⟨_, rfl⟩
  rw [← eρ_1]
  refine g_iload_n X dX0_passNight_4 3 rfl rfl ?_
  refine g_bipush X (v := 12) dX0_passNight_5 (by decide) ?_
  refine g_icmp_geN X i 12 79 (by omega) (by omega) dX0_passNight_7 (by decide) (fun c_2 => ?_) (fun c_2 => ?_)
  · skip
    refine g_iload_n X dX0_passNight_79 2 rfl rfl ?_
    exact g_iret X hr hlk (by omega) (by omega) dX0_passNight_80 (by subst_vars; rw [show i = 12 by omega]; exact ⟨rfl, rfl⟩)
  · skip
    refine g_aload_n X dX0_passNight_10 0 rfl rfl ?_
    refine g_getr X b (by omega) 0 (by decide) ku_X0 kv_X0 kf_X0_9 rfl (lC_f_worn hb) dX0_passNight_11 ?_
    refine g_iload_n X dX0_passNight_14 3 rfl rfl ?_
    refine g_ialdN X (b + 1) i (by omega) (lC_worn hb) (by omega) (by decide) dX0_passNight_15 ?_
    rw [show ρ_1 (b + 1) i = ρ (b + 1) i by subst_vars; simp [ntR]]
    refine g_bipush X (v := 10) dX0_passNight_16 (by decide) ?_
    refine g_icmp_lt X 49 dX0_passNight_18 (by decide) (fun c_3 => ?_) (fun c_3 => ?_)
    · skip
      refine g_aload_n X dX0_passNight_49 0 rfl rfl ?_
      refine g_iload_n X dX0_passNight_50 3 rfl rfl ?_
      refine g_iload_n X dX0_passNight_51 3 rfl rfl ?_
      refine g_iconst X (v := 2) dX0_passNight_52 (by decide) ?_
      refine g_irem X dX0_passNight_53 (by decide) ?_
      rw [remN (by omega)]
      refine g_if_ne X 61 dX0_passNight_54 (by decide) (fun c_4 => ?_) (fun c_4 => ?_)
      · skip
        refine g_iload_n X dX0_passNight_61 1 rfl rfl ?_
        refine g_ineg X dX0_passNight_62 ?_
        refine g_mcallVv X b (c_X0_shift l D cy ad ρ_1 b i _ hb (by omega)) kl_X0_38 ⟨rfl, rfl, Nat.le_of_ble_eq_true rfl, Nat.le_of_ble_eq_true rfl⟩ (by omega) (lC_P hb) kv_X0 rfl rfl (Nat.le_of_ble_eq_true rfl) dX0_passNight_63 ⟨Nat.le_of_ble_eq_true rfl, Nat.le_of_ble_eq_true rfl⟩ (fun ρ_5 h_7 => ?_)
        refine g_aload_n X dX0_passNight_66 0 rfl rfl ?_
        refine g_getr X b (by omega) 3 (by decide) ku_X0 kv_X0 kf_X0_22 rfl (lC_f_pla hb) dX0_passNight_67 ?_
        refine g_iload_n X dX0_passNight_70 3 rfl rfl ?_
        refine g_iconst X (v := 0) dX0_passNight_71 (by decide) ?_
        refine g_zastN X (b + 4) i (by omega) (lC_pla hb) vp_z0 (by omega) (by decide) dX0_passNight_72 (fun ρ_8 eρ_8 => ?_)
        refine g_iincN X i 3 [(3, .int _), (0, .ref _), (1, .int _), (2, .int _)] 3 dX0_passNight_73 rfl (by decide) rfl ?_
        refine g_goto X 4 dX0_passNight_76 (by decide) ?_
        refine g_ls (ls' := [(0, .ref _), (1, .int _), (2, .int _), (3, .int _)]) [1, 2, 3, 0] rfl ?_
        exact g_eqv (ihi (by omega) trivial) (by simp only [sumI, cmB, *, ↓reduceIte, Int32.add_zero]) (by subst_vars; funext k j; simp only [up2_e, ntR, cmB, par] at *; grind) rfl rfl
      · skip
        refine g_iload_n X dX0_passNight_57 1 rfl rfl ?_
        refine g_goto X 63 dX0_passNight_58 (by decide) ?_
        refine g_mcallVv X b (c_X0_shift l D cy ad ρ_1 b i _ hb (by omega)) kl_X0_38 ⟨rfl, rfl, Nat.le_of_ble_eq_true rfl, Nat.le_of_ble_eq_true rfl⟩ (by omega) (lC_P hb) kv_X0 rfl rfl (Nat.le_of_ble_eq_true rfl) dX0_passNight_63 ⟨Nat.le_of_ble_eq_true rfl, Nat.le_of_ble_eq_true rfl⟩ (fun ρ_9 h_11 => ?_)
        refine g_aload_n X dX0_passNight_66 0 rfl rfl ?_
        refine g_getr X b (by omega) 3 (by decide) ku_X0 kv_X0 kf_X0_22 rfl (lC_f_pla hb) dX0_passNight_67 ?_
        refine g_iload_n X dX0_passNight_70 3 rfl rfl ?_
        refine g_iconst X (v := 0) dX0_passNight_71 (by decide) ?_
        refine g_zastN X (b + 4) i (by omega) (lC_pla hb) vp_z0 (by omega) (by decide) dX0_passNight_72 (fun ρ_12 eρ_12 => ?_)
        refine g_iincN X i 3 [(3, .int _), (0, .ref _), (1, .int _), (2, .int _)] 3 dX0_passNight_73 rfl (by decide) rfl ?_
        refine g_goto X 4 dX0_passNight_76 (by decide) ?_
        refine g_ls (ls' := [(0, .ref _), (1, .int _), (2, .int _), (3, .int _)]) [1, 2, 3, 0] rfl ?_
        exact g_eqv (ihi (by omega) trivial) (by simp only [sumI, cmB, *, ↓reduceIte, Int32.add_zero]) (by subst_vars; funext k j; simp only [up2_e, ntR, cmB, par] at *; grind) rfl rfl
    · skip
      refine g_aload_n X dX0_passNight_21 0 rfl rfl ?_
      refine g_getr X b (by omega) 3 (by decide) ku_X0 kv_X0 kf_X0_22 rfl (lC_f_pla hb) dX0_passNight_22 ?_
      refine g_iload_n X dX0_passNight_25 3 rfl rfl ?_
      refine g_zaldN X (b + 4) i (by omega) (lC_pla hb) (by omega) (by decide) dX0_passNight_26 ?_
      rw [show ρ_1 (b + 4) i = ρ (b + 4) i by subst_vars; simp [ntR]]
      refine g_if_ne X 49 dX0_passNight_27 (by decide) (fun c_13 => ?_) (fun c_13 => ?_)
      · skip
        refine g_aload_n X dX0_passNight_49 0 rfl rfl ?_
        refine g_iload_n X dX0_passNight_50 3 rfl rfl ?_
        refine g_iload_n X dX0_passNight_51 3 rfl rfl ?_
        refine g_iconst X (v := 2) dX0_passNight_52 (by decide) ?_
        refine g_irem X dX0_passNight_53 (by decide) ?_
        rw [remN (by omega)]
        refine g_if_ne X 61 dX0_passNight_54 (by decide) (fun c_14 => ?_) (fun c_14 => ?_)
        · skip
          refine g_iload_n X dX0_passNight_61 1 rfl rfl ?_
          refine g_ineg X dX0_passNight_62 ?_
          refine g_mcallVv X b (c_X0_shift l D cy ad ρ_1 b i _ hb (by omega)) kl_X0_38 ⟨rfl, rfl, Nat.le_of_ble_eq_true rfl, Nat.le_of_ble_eq_true rfl⟩ (by omega) (lC_P hb) kv_X0 rfl rfl (Nat.le_of_ble_eq_true rfl) dX0_passNight_63 ⟨Nat.le_of_ble_eq_true rfl, Nat.le_of_ble_eq_true rfl⟩ (fun ρ_15 h_17 => ?_)
          refine g_aload_n X dX0_passNight_66 0 rfl rfl ?_
          refine g_getr X b (by omega) 3 (by decide) ku_X0 kv_X0 kf_X0_22 rfl (lC_f_pla hb) dX0_passNight_67 ?_
          refine g_iload_n X dX0_passNight_70 3 rfl rfl ?_
          refine g_iconst X (v := 0) dX0_passNight_71 (by decide) ?_
          refine g_zastN X (b + 4) i (by omega) (lC_pla hb) vp_z0 (by omega) (by decide) dX0_passNight_72 (fun ρ_18 eρ_18 => ?_)
          refine g_iincN X i 3 [(3, .int _), (0, .ref _), (1, .int _), (2, .int _)] 3 dX0_passNight_73 rfl (by decide) rfl ?_
          refine g_goto X 4 dX0_passNight_76 (by decide) ?_
          refine g_ls (ls' := [(0, .ref _), (1, .int _), (2, .int _), (3, .int _)]) [1, 2, 3, 0] rfl ?_
          exact g_eqv (ihi (by omega) trivial) (by simp only [sumI, cmB, *, ↓reduceIte, Int32.add_zero]) (by subst_vars; funext k j; simp only [up2_e, ntR, cmB, par] at *; grind) rfl rfl
        · skip
          refine g_iload_n X dX0_passNight_57 1 rfl rfl ?_
          refine g_goto X 63 dX0_passNight_58 (by decide) ?_
          refine g_mcallVv X b (c_X0_shift l D cy ad ρ_1 b i _ hb (by omega)) kl_X0_38 ⟨rfl, rfl, Nat.le_of_ble_eq_true rfl, Nat.le_of_ble_eq_true rfl⟩ (by omega) (lC_P hb) kv_X0 rfl rfl (Nat.le_of_ble_eq_true rfl) dX0_passNight_63 ⟨Nat.le_of_ble_eq_true rfl, Nat.le_of_ble_eq_true rfl⟩ (fun ρ_19 h_21 => ?_)
          refine g_aload_n X dX0_passNight_66 0 rfl rfl ?_
          refine g_getr X b (by omega) 3 (by decide) ku_X0 kv_X0 kf_X0_22 rfl (lC_f_pla hb) dX0_passNight_67 ?_
          refine g_iload_n X dX0_passNight_70 3 rfl rfl ?_
          refine g_iconst X (v := 0) dX0_passNight_71 (by decide) ?_
          refine g_zastN X (b + 4) i (by omega) (lC_pla hb) vp_z0 (by omega) (by decide) dX0_passNight_72 (fun ρ_22 eρ_22 => ?_)
          refine g_iincN X i 3 [(3, .int _), (0, .ref _), (1, .int _), (2, .int _)] 3 dX0_passNight_73 rfl (by decide) rfl ?_
          refine g_goto X 4 dX0_passNight_76 (by decide) ?_
          refine g_ls (ls' := [(0, .ref _), (1, .int _), (2, .int _), (3, .int _)]) [1, 2, 3, 0] rfl ?_
          exact g_eqv (ihi (by omega) trivial) (by simp only [sumI, cmB, *, ↓reduceIte, Int32.add_zero]) (by subst_vars; funext k j; simp only [up2_e, ntR, cmB, par] at *; grind) rfl rfl
      · skip
        refine g_aload_n X dX0_passNight_30 0 rfl rfl ?_
        refine g_getr X b (by omega) 2 (by decide) ku_X0 kv_X0 kf_X0_18 rfl (lC_f_cri hb) dX0_passNight_31 ?_
        refine g_iload_n X dX0_passNight_34 3 rfl rfl ?_
        refine g_zaldN X (b + 3) i (by omega) (lC_cri hb) (by omega) (by decide) dX0_passNight_35 ?_
        rw [show ρ_1 (b + 3) i = ρ (b + 3) i by subst_vars; simp [ntR]]
        refine g_if_ne X 49 dX0_passNight_36 (by decide) (fun c_23 => ?_) (fun c_23 => ?_)
        · skip
          refine g_aload_n X dX0_passNight_49 0 rfl rfl ?_
          refine g_iload_n X dX0_passNight_50 3 rfl rfl ?_
          refine g_iload_n X dX0_passNight_51 3 rfl rfl ?_
          refine g_iconst X (v := 2) dX0_passNight_52 (by decide) ?_
          refine g_irem X dX0_passNight_53 (by decide) ?_
          rw [remN (by omega)]
          refine g_if_ne X 61 dX0_passNight_54 (by decide) (fun c_24 => ?_) (fun c_24 => ?_)
          · skip
            refine g_iload_n X dX0_passNight_61 1 rfl rfl ?_
            refine g_ineg X dX0_passNight_62 ?_
            refine g_mcallVv X b (c_X0_shift l D cy ad ρ_1 b i _ hb (by omega)) kl_X0_38 ⟨rfl, rfl, Nat.le_of_ble_eq_true rfl, Nat.le_of_ble_eq_true rfl⟩ (by omega) (lC_P hb) kv_X0 rfl rfl (Nat.le_of_ble_eq_true rfl) dX0_passNight_63 ⟨Nat.le_of_ble_eq_true rfl, Nat.le_of_ble_eq_true rfl⟩ (fun ρ_25 h_27 => ?_)
            refine g_aload_n X dX0_passNight_66 0 rfl rfl ?_
            refine g_getr X b (by omega) 3 (by decide) ku_X0 kv_X0 kf_X0_22 rfl (lC_f_pla hb) dX0_passNight_67 ?_
            refine g_iload_n X dX0_passNight_70 3 rfl rfl ?_
            refine g_iconst X (v := 0) dX0_passNight_71 (by decide) ?_
            refine g_zastN X (b + 4) i (by omega) (lC_pla hb) vp_z0 (by omega) (by decide) dX0_passNight_72 (fun ρ_28 eρ_28 => ?_)
            refine g_iincN X i 3 [(3, .int _), (0, .ref _), (1, .int _), (2, .int _)] 3 dX0_passNight_73 rfl (by decide) rfl ?_
            refine g_goto X 4 dX0_passNight_76 (by decide) ?_
            refine g_ls (ls' := [(0, .ref _), (1, .int _), (2, .int _), (3, .int _)]) [1, 2, 3, 0] rfl ?_
            exact g_eqv (ihi (by omega) trivial) (by simp only [sumI, cmB, *, ↓reduceIte, Int32.add_zero]) (by subst_vars; funext k j; simp only [up2_e, ntR, cmB, par] at *; grind) rfl rfl
          · skip
            refine g_iload_n X dX0_passNight_57 1 rfl rfl ?_
            refine g_goto X 63 dX0_passNight_58 (by decide) ?_
            refine g_mcallVv X b (c_X0_shift l D cy ad ρ_1 b i _ hb (by omega)) kl_X0_38 ⟨rfl, rfl, Nat.le_of_ble_eq_true rfl, Nat.le_of_ble_eq_true rfl⟩ (by omega) (lC_P hb) kv_X0 rfl rfl (Nat.le_of_ble_eq_true rfl) dX0_passNight_63 ⟨Nat.le_of_ble_eq_true rfl, Nat.le_of_ble_eq_true rfl⟩ (fun ρ_29 h_31 => ?_)
            refine g_aload_n X dX0_passNight_66 0 rfl rfl ?_
            refine g_getr X b (by omega) 3 (by decide) ku_X0 kv_X0 kf_X0_22 rfl (lC_f_pla hb) dX0_passNight_67 ?_
            refine g_iload_n X dX0_passNight_70 3 rfl rfl ?_
            refine g_iconst X (v := 0) dX0_passNight_71 (by decide) ?_
            refine g_zastN X (b + 4) i (by omega) (lC_pla hb) vp_z0 (by omega) (by decide) dX0_passNight_72 (fun ρ_32 eρ_32 => ?_)
            refine g_iincN X i 3 [(3, .int _), (0, .ref _), (1, .int _), (2, .int _)] 3 dX0_passNight_73 rfl (by decide) rfl ?_
            refine g_goto X 4 dX0_passNight_76 (by decide) ?_
            refine g_ls (ls' := [(0, .ref _), (1, .int _), (2, .int _), (3, .int _)]) [1, 2, 3, 0] rfl ?_
            exact g_eqv (ihi (by omega) trivial) (by simp only [sumI, cmB, *, ↓reduceIte, Int32.add_zero]) (by subst_vars; funext k j; simp only [up2_e, ntR, cmB, par] at *; grind) rfl rfl
        · skip
          refine g_aload_n X dX0_passNight_39 0 rfl rfl ?_
          refine g_getr X b (by omega) 2 (by decide) ku_X0 kv_X0 kf_X0_18 rfl (lC_f_cri hb) dX0_passNight_40 ?_
          refine g_iload_n X dX0_passNight_43 3 rfl rfl ?_
          refine g_iconst X (v := 1) dX0_passNight_44 (by decide) ?_
          refine g_zastN X (b + 3) i (by omega) (lC_cri hb) vp_z1 (by omega) (by decide) dX0_passNight_45 (fun ρ_33 eρ_33 => ?_)
          refine g_iinc X (_ + 1) [(2, .int _), (0, .ref _), (1, .int _), (3, .int _)] 2 dX0_passNight_46 rfl rfl (by decide) rfl ?_
          refine g_aload_n X dX0_passNight_49 1 rfl rfl ?_
          refine g_iload_n X dX0_passNight_50 3 rfl rfl ?_
          refine g_iload_n X dX0_passNight_51 3 rfl rfl ?_
          refine g_iconst X (v := 2) dX0_passNight_52 (by decide) ?_
          refine g_irem X dX0_passNight_53 (by decide) ?_
          rw [remN (by omega)]
          refine g_if_ne X 61 dX0_passNight_54 (by decide) (fun c_34 => ?_) (fun c_34 => ?_)
          · skip
            refine g_iload_n X dX0_passNight_61 2 rfl rfl ?_
            refine g_ineg X dX0_passNight_62 ?_
            refine g_mcallVv X b (c_X0_shift l D cy ad ρ_33 b i _ hb (by omega)) kl_X0_38 ⟨rfl, rfl, Nat.le_of_ble_eq_true rfl, Nat.le_of_ble_eq_true rfl⟩ (by omega) (lC_P hb) kv_X0 rfl rfl (Nat.le_of_ble_eq_true rfl) dX0_passNight_63 ⟨Nat.le_of_ble_eq_true rfl, Nat.le_of_ble_eq_true rfl⟩ (fun ρ_35 h_37 => ?_)
            refine g_aload_n X dX0_passNight_66 1 rfl rfl ?_
            refine g_getr X b (by omega) 3 (by decide) ku_X0 kv_X0 kf_X0_22 rfl (lC_f_pla hb) dX0_passNight_67 ?_
            refine g_iload_n X dX0_passNight_70 3 rfl rfl ?_
            refine g_iconst X (v := 0) dX0_passNight_71 (by decide) ?_
            refine g_zastN X (b + 4) i (by omega) (lC_pla hb) vp_z0 (by omega) (by decide) dX0_passNight_72 (fun ρ_38 eρ_38 => ?_)
            refine g_iincN X i 3 [(3, .int _), (2, .int _), (0, .ref _), (1, .int _)] 3 dX0_passNight_73 rfl (by decide) rfl ?_
            refine g_goto X 4 dX0_passNight_76 (by decide) ?_
            refine g_ls (ls' := [(0, .ref _), (1, .int _), (2, .int _), (3, .int _)]) [2, 3, 1, 0] rfl ?_
            exact g_eqv (ihi (by omega) trivial) (by simp only [sumI, cmB, *, ↓reduceIte, Int32.add_zero]) (by subst_vars; funext k j; simp only [up2_e, ntR, cmB, par] at *; grind) rfl rfl
          · skip
            refine g_iload_n X dX0_passNight_57 2 rfl rfl ?_
            refine g_goto X 63 dX0_passNight_58 (by decide) ?_
            refine g_mcallVv X b (c_X0_shift l D cy ad ρ_33 b i _ hb (by omega)) kl_X0_38 ⟨rfl, rfl, Nat.le_of_ble_eq_true rfl, Nat.le_of_ble_eq_true rfl⟩ (by omega) (lC_P hb) kv_X0 rfl rfl (Nat.le_of_ble_eq_true rfl) dX0_passNight_63 ⟨Nat.le_of_ble_eq_true rfl, Nat.le_of_ble_eq_true rfl⟩ (fun ρ_39 h_41 => ?_)
            refine g_aload_n X dX0_passNight_66 1 rfl rfl ?_
            refine g_getr X b (by omega) 3 (by decide) ku_X0 kv_X0 kf_X0_22 rfl (lC_f_pla hb) dX0_passNight_67 ?_
            refine g_iload_n X dX0_passNight_70 3 rfl rfl ?_
            refine g_iconst X (v := 0) dX0_passNight_71 (by decide) ?_
            refine g_zastN X (b + 4) i (by omega) (lC_pla hb) vp_z0 (by omega) (by decide) dX0_passNight_72 (fun ρ_42 eρ_42 => ?_)
            refine g_iincN X i 3 [(3, .int _), (2, .int _), (0, .ref _), (1, .int _)] 3 dX0_passNight_73 rfl (by decide) rfl ?_
            refine g_goto X 4 dX0_passNight_76 (by decide) ?_
            refine g_ls (ls' := [(0, .ref _), (1, .int _), (2, .int _), (3, .int _)]) [2, 3, 1, 0] rfl ?_
            exact g_eqv (ihi (by omega) trivial) (by simp only [sumI, cmB, *, ↓reduceIte, Int32.add_zero]) (by subst_vars; funext k j; simp only [up2_e, ntR, cmB, par] at *; grind) rfl rfl

set_option maxHeartbeats 1000000 in
set_option maxRecDepth 100000 in
theorem c_X0_clearCrickets (l : Launch) (D : va_G) (cy : Nat → ClassId) (ad : Nat → Nat) (ρ : Nat → Nat → Int32) (b : Nat) (hb : isP b) : gMV l yX0_clearCrickets cX0_clearCrickets 2 none { frames := 0, cells := 0, slots := 0, locals := 0 } D cy 48 ad (cC ad cy) [.ref (ad b)] ρ (fun ρ1 => ρ1 = clrR ρ b 12) 0 0 := by
  refine gMV_of (ls := [(0, .ref (ad b))]) RX0 rfl (by decide +kernel) (Nat.le_of_ble_eq_true rfl) rfl ?_
  intro p e s m args below meth c A X hr hlk hnm
  have hb9 := isP_lt hb
  refine g_iconst X (v := 0) dX0_clearCrickets_0 (by decide) ?_
  refine g_istore_n X [(1, .int _), (0, .ref _)] dX0_clearCrickets_1 rfl (by decide) rfl ?_
  refine g_ls (ls' := [(0, .ref _), (1, .int _)]) [1, 0] rfl ?_
  refine g_loop (fun _ => True) (fun i => clrR ρ b i) (fun i => [(0, .ref (ad b)), (1, .int (nI i))]) (fun _ => 0) (fun _ => 0) 12 0 trivial (by omega) rfl (by funext k j; simp [clrR]) rfl rfl (fun i h0i hi hIi ihi => ?_)
  obtain ⟨ρ_1, eρ_1⟩ : ∃ ρz, ρz = clrR ρ b i := ⟨_, rfl⟩
  rw [← eρ_1]
  refine g_iload_n X dX0_clearCrickets_2 1 rfl rfl ?_
  refine g_bipush X (v := 12) dX0_clearCrickets_3 (by decide) ?_
  refine g_icmp_geN X i 12 21 (by omega) (by omega) dX0_clearCrickets_5 (by decide) (fun c_2 => ?_) (fun c_2 => ?_)
  · skip
    exact g_vret X hr hlk (by omega) (by omega) dX0_clearCrickets_21 (by subst_vars; rw [show i = 12 by omega])
  · skip
    refine g_aload_n X dX0_clearCrickets_8 0 rfl rfl ?_
    refine g_getr X b (by omega) 2 (by decide) ku_X0 kv_X0 kf_X0_18 rfl (lC_f_cri hb) dX0_clearCrickets_9 ?_
    refine g_iload_n X dX0_clearCrickets_12 1 rfl rfl ?_
    refine g_iconst X (v := 0) dX0_clearCrickets_13 (by decide) ?_
    refine g_zastN X (b + 3) i (by omega) (lC_cri hb) vp_z0 (by omega) (by decide) dX0_clearCrickets_14 (fun ρ_3 eρ_3 => ?_)
    refine g_iincN X i 1 [(1, .int _), (0, .ref _)] 1 dX0_clearCrickets_15 rfl (by decide) rfl ?_
    refine g_goto X 2 dX0_clearCrickets_18 (by decide) ?_
    refine g_ls (ls' := [(0, .ref _), (1, .int _)]) [1, 0] rfl ?_
    exact g_eqv (ihi (by omega) trivial) (rfl) (by subst_vars; funext k j; simp only [up2_e, clrR]; grind) rfl rfl

set_option maxHeartbeats 1000000 in
set_option maxRecDepth 100000 in
theorem c_X0_cricketCount (l : Launch) (D : va_G) (cy : Nat → ClassId) (ad : Nat → Nat) (ρ : Nat → Nat → Int32) (b : Nat) (hb : isP b) : gMI l yX0_cricketCount cX0_cricketCount 3 (some .int) { frames := 0, cells := 0, slots := 0, locals := 0 } D cy 48 ad (cC ad cy) [.ref (ad b)] ρ (fun r ρ1 => r = crc ρ b ∧ ρ1 = ρ) 0 0 := by
  refine gMI_of (ls := [(0, .ref (ad b))]) RX0 rfl (by decide +kernel) (Nat.le_of_ble_eq_true rfl) rfl ?_
  intro p e s m args below meth c A X hr hlk hnm
  have hb9 := isP_lt hb
  refine g_iconst X (v := 0) dX0_cricketCount_0 (by decide) ?_
  refine g_istore_n X [(1, .int _), (0, .ref _)] dX0_cricketCount_1 rfl (by decide) rfl ?_
  refine g_iconst X (v := 0) dX0_cricketCount_2 (by decide) ?_
  refine g_istore_n X [(2, .int _), (1, .int _), (0, .ref _)] dX0_cricketCount_3 rfl (by decide) rfl ?_
  refine g_ls (ls' := [(0, .ref _), (1, .int _), (2, .int _)]) [2, 1, 0] rfl ?_
  refine g_loop (fun _ => True) (fun _ => ρ) (fun i => [(0, .ref (ad b)), (1, .int (sumI (fun j => b01 (ρ (b + 3) j)) i)), (2, .int (nI i))]) (fun _ => 0) (fun _ => 0) 12 0 trivial (by omega) rfl rfl rfl rfl (fun i h0i hi hIi ihi => ?_)
  refine g_iload_n X dX0_cricketCount_4 2 rfl rfl ?_
  refine g_bipush X (v := 12) dX0_cricketCount_5 (by decide) ?_
  refine g_icmp_geN X i 12 33 (by omega) (by omega) dX0_cricketCount_7 (by decide) (fun c_1 => ?_) (fun c_1 => ?_)
  · skip
    refine g_iload_n X dX0_cricketCount_33 1 rfl rfl ?_
    exact g_iret X hr hlk (by omega) (by omega) dX0_cricketCount_34 (by rw [show i = 12 by omega]; exact ⟨rfl, rfl⟩)
  · skip
    refine g_iload_n X dX0_cricketCount_10 1 rfl rfl ?_
    refine g_aload_n X dX0_cricketCount_11 0 rfl rfl ?_
    refine g_getr X b (by omega) 2 (by decide) ku_X0 kv_X0 kf_X0_18 rfl (lC_f_cri hb) dX0_cricketCount_12 ?_
    refine g_iload_n X dX0_cricketCount_15 2 rfl rfl ?_
    refine g_zaldN X (b + 3) i (by omega) (lC_cri hb) (by omega) (by decide) dX0_cricketCount_16 ?_
    refine g_if_eq X 24 dX0_cricketCount_17 (by decide) (fun c_2 => ?_) (fun c_2 => ?_)
    · skip
      refine g_iconst X (v := 0) dX0_cricketCount_24 (by decide) ?_
      refine g_iadd X dX0_cricketCount_25 ?_
      refine g_istore_n X [(1, .int _), (0, .ref _), (2, .int _)] dX0_cricketCount_26 rfl (by decide) rfl ?_
      refine g_iincN X i 2 [(2, .int _), (1, .int _), (0, .ref _)] 2 dX0_cricketCount_27 rfl (by decide) rfl ?_
      refine g_goto X 4 dX0_cricketCount_30 (by decide) ?_
      refine g_ls (ls' := [(0, .ref _), (1, .int _), (2, .int _)]) [2, 1, 0] rfl ?_
      exact g_eqv (ihi (by omega) trivial) (by simp only [sumI, b01]; first | rw [if_pos c_2] | rw [if_neg c_2]) (rfl) rfl rfl
    · skip
      refine g_iconst X (v := 1) dX0_cricketCount_20 (by decide) ?_
      refine g_goto X 25 dX0_cricketCount_21 (by decide) ?_
      refine g_iadd X dX0_cricketCount_25 ?_
      refine g_istore_n X [(1, .int _), (0, .ref _), (2, .int _)] dX0_cricketCount_26 rfl (by decide) rfl ?_
      refine g_iincN X i 2 [(2, .int _), (1, .int _), (0, .ref _)] 2 dX0_cricketCount_27 rfl (by decide) rfl ?_
      refine g_goto X 4 dX0_cricketCount_30 (by decide) ?_
      refine g_ls (ls' := [(0, .ref _), (1, .int _), (2, .int _)]) [2, 1, 0] rfl ?_
      exact g_eqv (ihi (by omega) trivial) (by simp only [sumI, b01]; first | rw [if_pos c_2] | rw [if_neg c_2]) (rfl) rfl rfl

set_option maxHeartbeats 1000000 in
set_option maxRecDepth 100000 in
theorem c_X0_wornInAll (l : Launch) (D : va_G) (cy : Nat → ClassId) (ad : Nat → Nat) (ρ : Nat → Nat → Int32) (b : Nat) (hb : isP b) : gMI l yX0_wornInAll cX0_wornInAll 3 (some .int) { frames := 0, cells := 0, slots := 0, locals := 0 } D cy 48 ad (cC ad cy) [.ref (ad b)] ρ (fun r ρ1 => r = wrn ρ b ∧ ρ1 = ρ) 0 0 := by
  refine gMI_of (ls := [(0, .ref (ad b))]) RX0 rfl (by decide +kernel) (Nat.le_of_ble_eq_true rfl) rfl ?_
  intro p e s m args below meth c A X hr hlk hnm
  have hb9 := isP_lt hb
  refine g_iconst X (v := 0) dX0_wornInAll_0 (by decide) ?_
  refine g_istore_n X [(1, .int _), (0, .ref _)] dX0_wornInAll_1 rfl (by decide) rfl ?_
  refine g_iconst X (v := 0) dX0_wornInAll_2 (by decide) ?_
  refine g_istore_n X [(2, .int _), (1, .int _), (0, .ref _)] dX0_wornInAll_3 rfl (by decide) rfl ?_
  refine g_ls (ls' := [(0, .ref _), (1, .int _), (2, .int _)]) [2, 1, 0] rfl ?_
  refine g_loop (fun _ => True) (fun _ => ρ) (fun i => [(0, .ref (ad b)), (1, .int (sumI (fun j => ρ (b + 1) j) i)), (2, .int (nI i))]) (fun _ => 0) (fun _ => 0) 12 0 trivial (by omega) rfl rfl rfl rfl (fun i h0i hi hIi ihi => ?_)
  refine g_iload_n X dX0_wornInAll_4 2 rfl rfl ?_
  refine g_bipush X (v := 12) dX0_wornInAll_5 (by decide) ?_
  refine g_icmp_geN X i 12 25 (by omega) (by omega) dX0_wornInAll_7 (by decide) (fun c_1 => ?_) (fun c_1 => ?_)
  · skip
    refine g_iload_n X dX0_wornInAll_25 1 rfl rfl ?_
    exact g_iret X hr hlk (by omega) (by omega) dX0_wornInAll_26 (by rw [show i = 12 by omega]; exact ⟨rfl, rfl⟩)
  · skip
    refine g_iload_n X dX0_wornInAll_10 1 rfl rfl ?_
    refine g_aload_n X dX0_wornInAll_11 0 rfl rfl ?_
    refine g_getr X b (by omega) 0 (by decide) ku_X0 kv_X0 kf_X0_9 rfl (lC_f_worn hb) dX0_wornInAll_12 ?_
    refine g_iload_n X dX0_wornInAll_15 2 rfl rfl ?_
    refine g_ialdN X (b + 1) i (by omega) (lC_worn hb) (by omega) (by decide) dX0_wornInAll_16 ?_
    refine g_iadd X dX0_wornInAll_17 ?_
    refine g_istore_n X [(1, .int _), (0, .ref _), (2, .int _)] dX0_wornInAll_18 rfl (by decide) rfl ?_
    refine g_iincN X i 2 [(2, .int _), (1, .int _), (0, .ref _)] 2 dX0_wornInAll_19 rfl (by decide) rfl ?_
    refine g_goto X 4 dX0_wornInAll_22 (by decide) ?_
    refine g_ls (ls' := [(0, .ref _), (1, .int _), (2, .int _)]) [2, 1, 0] rfl ?_
    exact g_eqv (ihi (by omega) trivial) (rfl) (rfl) rfl rfl

set_option maxHeartbeats 1000000 in
set_option maxRecDepth 100000 in
theorem c_X0_offInAll (l : Launch) (D : va_G) (cy : Nat → ClassId) (ad : Nat → Nat) (ρ : Nat → Nat → Int32) (b : Nat) (hb : isP b) : gMI l yX0_offInAll cX0_offInAll 3 (some .int) { frames := 1, cells := 0, slots := 0, locals := 21 } D cy 48 ad (cC ad cy) [.ref (ad b)] ρ (fun r ρ1 => r = ofn ρ b ∧ ρ1 = ρ) 0 0 := by
  refine gMI_of (ls := [(0, .ref (ad b))]) RX0 rfl (by decide +kernel) (Nat.le_of_ble_eq_true rfl) rfl ?_
  intro p e s m args below meth c A X hr hlk hnm
  have hb9 := isP_lt hb
  refine g_iconst X (v := 0) dX0_offInAll_0 (by decide) ?_
  refine g_istore_n X [(1, .int _), (0, .ref _)] dX0_offInAll_1 rfl (by decide) rfl ?_
  refine g_iconst X (v := 0) dX0_offInAll_2 (by decide) ?_
  refine g_istore_n X [(2, .int _), (1, .int _), (0, .ref _)] dX0_offInAll_3 rfl (by decide) rfl ?_
  refine g_ls (ls' := [(0, .ref _), (1, .int _), (2, .int _)]) [2, 1, 0] rfl ?_
  refine g_loop (fun _ => True) (fun _ => ρ) (fun i => [(0, .ref (ad b)), (1, .int (sumI (fun j => ab (ρ (b + 2) j)) i)), (2, .int (nI i))]) (fun _ => 0) (fun _ => 0) 12 0 trivial (by omega) rfl rfl rfl rfl (fun i h0i hi hIi ihi => ?_)
  refine g_iload_n X dX0_offInAll_4 2 rfl rfl ?_
  refine g_bipush X (v := 12) dX0_offInAll_5 (by decide) ?_
  refine g_icmp_geN X i 12 28 (by omega) (by omega) dX0_offInAll_7 (by decide) (fun c_1 => ?_) (fun c_1 => ?_)
  · skip
    refine g_iload_n X dX0_offInAll_28 1 rfl rfl ?_
    exact g_iret X hr hlk (by omega) (by omega) dX0_offInAll_29 (by rw [show i = 12 by omega]; exact ⟨rfl, rfl⟩)
  · skip
    refine g_iload_n X dX0_offInAll_10 1 rfl rfl ?_
    refine g_aload_n X dX0_offInAll_11 0 rfl rfl ?_
    refine g_getr X b (by omega) 1 (by decide) ku_X0 kv_X0 kf_X0_15 rfl (lC_f_off hb) dX0_offInAll_12 ?_
    refine g_iload_n X dX0_offInAll_15 2 rfl rfl ?_
    refine g_ialdN X (b + 2) i (by omega) (lC_off hb) (by omega) (by decide) dX0_offInAll_16 ?_
    refine g_mabs X km_X0_25 kt_mabs ki_math kc_mabs ⟨Nat.le_of_ble_eq_true rfl, Nat.le_of_ble_eq_true rfl, by omega, by omega⟩ dX0_offInAll_17 ?_
    refine g_iadd X dX0_offInAll_20 ?_
    refine g_istore_n X [(1, .int _), (0, .ref _), (2, .int _)] dX0_offInAll_21 rfl (by decide) rfl ?_
    refine g_iincN X i 2 [(2, .int _), (1, .int _), (0, .ref _)] 2 dX0_offInAll_22 rfl (by decide) rfl ?_
    refine g_goto X 4 dX0_offInAll_25 (by decide) ?_
    refine g_ls (ls' := [(0, .ref _), (1, .int _), (2, .int _)]) [2, 1, 0] rfl ?_
    exact g_eqv (ihi (by omega) trivial) (rfl) (rfl) rfl rfl

set_option maxHeartbeats 1000000 in
set_option maxRecDepth 100000 in
theorem c_X0_sumUp (l : Launch) (D : va_G) (cy : Nat → ClassId) (ad : Nat → Nat) (ρ : Nat → Nat → Int32) (b w : Nat) (hb : isP b) (hw : w = 5 ∨ w = 6 ∨ w = 7) : gMI l yX0_sumUp cX0_sumUp 2 (some .int) { frames := 2, cells := 0, slots := 0, locals := 43 } D cy 48 ad (cC ad cy) [.ref (ad b), .int (nI w)] ρ (fun r ρ1 => r = sumUpF ρ b w ∧ ρ1 = ρ) 0 0 := by
  refine gMI_of (ls := [(0, .ref (ad b)), (1, .int (nI w))]) RX0 rfl (by decide +kernel) (Nat.le_of_ble_eq_true rfl) rfl ?_
  intro p e s m args below meth c A X hr hlk hnm
  have hb9 := isP_lt hb
  refine g_iload_n X dX0_sumUp_0 1 rfl rfl ?_
  rcases hw with rfl | rfl | rfl
  · skip
    refine g_lookup X 27 28 dX0_sumUp_1 (by decide) (by decide) (by decide) ?_
    refine g_aload_n X dX0_sumUp_28 0 rfl rfl ?_
    refine g_mcallVi X b (c_X0_cricketCount l D cy ad ρ b hb) kl_X0_42 ⟨rfl, rfl, Nat.le_of_ble_eq_true rfl, Nat.le_of_ble_eq_true rfl⟩ (by omega) (lC_P hb) kv_X0 rfl rfl (Nat.le_of_ble_eq_true rfl) dX0_sumUp_29 ⟨Nat.le_of_ble_eq_true rfl, Nat.le_of_ble_eq_true rfl⟩ (fun r_2 ρ_1 h_3 => ?_)
    obtain ⟨er_2, e9⟩ := h_3
    rw [e9, er_2]
    clear e9
    exact g_iret X hr hlk (by omega) (by omega) dX0_sumUp_32 (⟨rfl, rfl⟩)
  · skip
    refine g_lookup X 32 33 dX0_sumUp_1 (by decide) (by decide) (by decide) ?_
    refine g_aload_n X dX0_sumUp_33 0 rfl rfl ?_
    refine g_mcallVi X b (c_X0_wornInAll l D cy ad ρ b hb) kl_X0_46 ⟨rfl, rfl, Nat.le_of_ble_eq_true rfl, Nat.le_of_ble_eq_true rfl⟩ (by omega) (lC_P hb) kv_X0 rfl rfl (Nat.le_of_ble_eq_true rfl) dX0_sumUp_34 ⟨Nat.le_of_ble_eq_true rfl, Nat.le_of_ble_eq_true rfl⟩ (fun r_5 ρ_4 h_6 => ?_)
    obtain ⟨er_5, e9⟩ := h_6
    rw [e9, er_5]
    clear e9
    exact g_iret X hr hlk (by omega) (by omega) dX0_sumUp_37 (⟨rfl, rfl⟩)
  · skip
    refine g_lookup X 37 38 dX0_sumUp_1 (by decide) (by decide) (by decide) ?_
    refine g_aload_n X dX0_sumUp_38 0 rfl rfl ?_
    refine g_mcallVi X b (c_X0_offInAll l D cy ad ρ b hb) kl_X0_49 ⟨rfl, rfl, Nat.le_of_ble_eq_true rfl, Nat.le_of_ble_eq_true rfl⟩ (by omega) (lC_P hb) kv_X0 rfl rfl (Nat.le_of_ble_eq_true rfl) dX0_sumUp_39 ⟨Nat.le_of_ble_eq_true rfl, Nat.le_of_ble_eq_true rfl⟩ (fun r_8 ρ_7 h_9 => ?_)
    obtain ⟨er_8, e9⟩ := h_9
    rw [e9, er_8]
    clear e9
    exact g_iret X hr hlk (by omega) (by omega) dX0_sumUp_42 (⟨rfl, rfl⟩)

set_option maxHeartbeats 1000000 in
set_option maxRecDepth 100000 in
theorem c_X0_tell (l : Launch) (D : va_G) (cy : Nat → ClassId) (ad : Nat → Nat) (ρ : Nat → Nat → Int32) (b i w : Nat) (hb : isP b) (hi : i < 12) (hw : w < 5) : gMI l yX0_tell cX0_tell 3 (some .int) { frames := 2, cells := 0, slots := 0, locals := 42 } D cy 48 ad (cC ad cy) [.ref (ad b), .int (nI i), .int (nI w)] ρ (fun r ρ1 => r = tellF ρ b i w ∧ ρ1 = ρ) 0 0 := by
  refine gMI_of (ls := [(0, .ref (ad b)), (1, .int (nI i)), (2, .int (nI w))]) RX0 rfl (by decide +kernel) (Nat.le_of_ble_eq_true rfl) rfl ?_
  intro p e s m args below meth c A X hr hlk hnm
  have hb9 := isP_lt hb
  refine g_iload_n X dX0_tell_0 2 rfl rfl ?_
  rcases (show w = 0 ∨ w = 1 ∨ w = 2 ∨ w = 3 ∨ w = 4 by omega) with rfl | rfl | rfl | rfl | rfl
  · skip
    refine g_tableIn X 32 dX0_tell_1 (by decide) (by decide) rfl (by decide) ?_
    refine g_aload_n X dX0_tell_32 0 rfl rfl ?_
    refine g_getr X b (by omega) 0 (by decide) ku_X0 kv_X0 kf_X0_9 rfl (lC_f_worn hb) dX0_tell_33 ?_
    refine g_iload_n X dX0_tell_36 1 rfl rfl ?_
    refine g_ialdN X (b + 1) i (by omega) (lC_worn hb) (by omega) (by decide) dX0_tell_37 ?_
    exact g_iret X hr hlk (by omega) (by omega) dX0_tell_38 (⟨rfl, rfl⟩)
  · skip
    refine g_tableIn X 39 dX0_tell_1 (by decide) (by decide) rfl (by decide) ?_
    refine g_aload_n X dX0_tell_39 0 rfl rfl ?_
    refine g_getr X b (by omega) 1 (by decide) ku_X0 kv_X0 kf_X0_15 rfl (lC_f_off hb) dX0_tell_40 ?_
    refine g_iload_n X dX0_tell_43 1 rfl rfl ?_
    refine g_ialdN X (b + 2) i (by omega) (lC_off hb) (by omega) (by decide) dX0_tell_44 ?_
    exact g_iret X hr hlk (by omega) (by omega) dX0_tell_45 (⟨rfl, rfl⟩)
  · skip
    refine g_tableIn X 46 dX0_tell_1 (by decide) (by decide) rfl (by decide) ?_
    refine g_aload_n X dX0_tell_46 0 rfl rfl ?_
    refine g_getr X b (by omega) 2 (by decide) ku_X0 kv_X0 kf_X0_18 rfl (lC_f_cri hb) dX0_tell_47 ?_
    refine g_iload_n X dX0_tell_50 1 rfl rfl ?_
    refine g_zaldN X (b + 3) i (by omega) (lC_cri hb) (by omega) (by decide) dX0_tell_51 ?_
    refine g_if_eq X 59 dX0_tell_52 (by decide) (fun c_1 => ?_) (fun c_1 => ?_)
    · skip
      refine g_iconst X (v := 0) dX0_tell_59 (by decide) ?_
      exact g_iret X hr hlk (by omega) (by omega) dX0_tell_60 (⟨by simp [tellF, b01, *], rfl⟩)
    · skip
      refine g_iconst X (v := 1) dX0_tell_55 (by decide) ?_
      refine g_goto X 60 dX0_tell_56 (by decide) ?_
      exact g_iret X hr hlk (by omega) (by omega) dX0_tell_60 (⟨by simp [tellF, b01, *], rfl⟩)
  · skip
    refine g_tableIn X 61 dX0_tell_1 (by decide) (by decide) rfl (by decide) ?_
    refine g_aload_n X dX0_tell_61 0 rfl rfl ?_
    refine g_iload_n X dX0_tell_62 1 rfl rfl ?_
    refine g_mcallVi X b (c_X0_harmOf l D cy ad ρ b i hb (by omega)) kl_X0_52 ⟨rfl, rfl, Nat.le_of_ble_eq_true rfl, Nat.le_of_ble_eq_true rfl⟩ (by omega) (lC_P hb) kv_X0 rfl rfl (Nat.le_of_ble_eq_true rfl) dX0_tell_63 ⟨Nat.le_of_ble_eq_true rfl, Nat.le_of_ble_eq_true rfl⟩ (fun r_3 ρ_2 h_4 => ?_)
    obtain ⟨er_3, e9⟩ := h_4
    rw [e9, er_3]
    clear e9
    exact g_iret X hr hlk (by omega) (by omega) dX0_tell_66 (⟨rfl, rfl⟩)
  · skip
    refine g_tableOut X 67 dX0_tell_1 (by decide) (by decide) ?_
    refine g_aload_n X dX0_tell_67 0 rfl rfl ?_
    refine g_getr X b (by omega) 3 (by decide) ku_X0 kv_X0 kf_X0_22 rfl (lC_f_pla hb) dX0_tell_68 ?_
    refine g_iload_n X dX0_tell_71 1 rfl rfl ?_
    refine g_zaldN X (b + 4) i (by omega) (lC_pla hb) (by omega) (by decide) dX0_tell_72 ?_
    refine g_if_eq X 80 dX0_tell_73 (by decide) (fun c_5 => ?_) (fun c_5 => ?_)
    · skip
      refine g_iconst X (v := 0) dX0_tell_80 (by decide) ?_
      exact g_iret X hr hlk (by omega) (by omega) dX0_tell_81 (⟨by simp [tellF, b01, *], rfl⟩)
    · skip
      refine g_iconst X (v := 1) dX0_tell_76 (by decide) ?_
      refine g_goto X 81 dX0_tell_77 (by decide) ?_
      exact g_iret X hr hlk (by omega) (by omega) dX0_tell_81 (⟨by simp [tellF, b01, *], rfl⟩)
