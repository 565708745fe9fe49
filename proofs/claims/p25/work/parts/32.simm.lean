set_option maxHeartbeats 1000000 in
set_option maxRecDepth 100000 in
theorem c_X4_harm (l : Launch) (D : va_G) (cy : Nat → ClassId) (ad : Nat → Nat) (ρ : Nat → Nat → Int32) (S T : Nat) (Ln : Nat → Nat) (j0 : Nat) (hp : j0 < 12) : gMI l yX4_harm cX4_harm 3 (some .int) { frames := 0, cells := 0, slots := 0, locals := 0 } D cy (8 + S + T) ad (cS ad cy S T Ln) [.ref (ad 0), .int (nI j0)] (sR S ρ) (fun r ρ1 => r = hP ρ 1 j0 ∧ ρ1 = sR S ρ) 0 0 := by
  refine gMI_of (ls := [(0, .ref (ad 0)), (1, .int (nI j0))]) RX4 rfl (by decide +kernel) (Nat.le_of_ble_eq_true rfl) rfl ?_
  intro p e s m args below meth c A X hr hlk hnm
  refine g_aload_n X dX4_harm_0 0 rfl rfl ?_
  refine g_getr X 0 (by omega) 4 (by decide) ku_X4 kv_X4 kf_X4_17 rfl lS_off dX4_harm_1 ?_
  refine g_iload_n X dX4_harm_4 1 rfl rfl ?_
  refine g_ialdN X 2 j0 (by omega) lS_a2 (by omega) (by decide) dX4_harm_5 ?_
  rw [rS_2]
  refine g_if_ge X 19 dX4_harm_6 (by decide) (fun c_1 => ?_) (fun c_1 => ?_)
  · skip
    have cA := c_1
    refine g_aload_n X dX4_harm_19 0 rfl rfl ?_
    refine g_getr X 0 (by omega) 4 (by decide) ku_X4 kv_X4 kf_X4_17 rfl lS_off dX4_harm_20 ?_
    refine g_iload_n X dX4_harm_23 1 rfl rfl ?_
    refine g_ialdN X 2 j0 (by omega) lS_a2 (by omega) (by decide) dX4_harm_24 ?_
    rw [rS_2]
    refine g_aload_n X dX4_harm_25 0 rfl rfl ?_
    refine g_getr X 0 (by omega) 3 (by decide) ku_X4 kv_X4 kf_X4_13 rfl lS_worn dX4_harm_26 ?_
    refine g_iload_n X dX4_harm_29 1 rfl rfl ?_
    refine g_ialdN X 1 j0 (by omega) lS_a1 (by omega) (by decide) dX4_harm_30 ?_
    rw [rS_1]
    refine g_iadd X dX4_harm_31 ?_
    refine g_aload_n X dX4_harm_32 0 rfl rfl ?_
    refine g_getr X 0 (by omega) 3 (by decide) ku_X4 kv_X4 kf_X4_13 rfl lS_worn dX4_harm_33 ?_
    refine g_iload_n X dX4_harm_36 1 rfl rfl ?_
    refine g_ialdN X 1 j0 (by omega) lS_a1 (by omega) (by decide) dX4_harm_37 ?_
    rw [rS_1]
    refine g_iadd X dX4_harm_38 ?_
    refine g_istore_n X [(2, .int _), (0, .ref _), (1, .int _)] dX4_harm_39 rfl (by decide) rfl ?_
    refine g_aload_n X dX4_harm_40 1 rfl rfl ?_
    refine g_getr X 0 (by omega) 5 (by decide) ku_X4 kv_X4 kf_X4_20 rfl lS_chirps dX4_harm_41 ?_
    refine g_iload_n X dX4_harm_44 2 rfl rfl ?_
    refine g_zaldN X 3 j0 (by omega) lS_a3 (by omega) (by decide) dX4_harm_45 ?_
    rw [rS_3]
    refine g_if_ne X 55 dX4_harm_46 (by decide) (fun c_2 => ?_) (fun c_2 => ?_)
    · skip
      have cC := c_2
      refine g_bipush X (v := 60) dX4_harm_55 (by decide) ?_
      refine g_goto X 61 dX4_harm_57 (by decide) ?_
      exact g_iret X hr hlk (by omega) (by omega) dX4_harm_61 (⟨hP_a cC, rfl⟩)
    · skip
      have cC := c_2
      refine g_iload_n X dX4_harm_49 0 rfl rfl ?_
      refine g_bipush X (v := 60) dX4_harm_50 (by decide) ?_
      refine g_icmp_le X 60 dX4_harm_52 (by decide) (fun c_3 => ?_) (fun c_3 => ?_)
      · skip
        have cD := c_3
        refine g_iload_n X dX4_harm_60 0 rfl rfl ?_
        exact g_iret X hr hlk (by omega) (by omega) dX4_harm_61 (⟨hP_b cC (by rw [ab_ge cA]) cD, rfl⟩)
      · skip
        have cD := c_3
        refine g_bipush X (v := 60) dX4_harm_55 (by decide) ?_
        refine g_goto X 61 dX4_harm_57 (by decide) ?_
        exact g_iret X hr hlk (by omega) (by omega) dX4_harm_61 (⟨hP_c cC (by rw [ab_ge cA]) cD, rfl⟩)
  · skip
    have cA := c_1
    refine g_aload_n X dX4_harm_9 0 rfl rfl ?_
    refine g_getr X 0 (by omega) 4 (by decide) ku_X4 kv_X4 kf_X4_17 rfl lS_off dX4_harm_10 ?_
    refine g_iload_n X dX4_harm_13 1 rfl rfl ?_
    refine g_ialdN X 2 j0 (by omega) lS_a2 (by omega) (by decide) dX4_harm_14 ?_
    rw [rS_2]
    refine g_ineg X dX4_harm_15 ?_
    refine g_goto X 25 dX4_harm_16 (by decide) ?_
    refine g_aload_n X dX4_harm_25 0 rfl rfl ?_
    refine g_getr X 0 (by omega) 3 (by decide) ku_X4 kv_X4 kf_X4_13 rfl lS_worn dX4_harm_26 ?_
    refine g_iload_n X dX4_harm_29 1 rfl rfl ?_
    refine g_ialdN X 1 j0 (by omega) lS_a1 (by omega) (by decide) dX4_harm_30 ?_
    rw [rS_1]
    refine g_iadd X dX4_harm_31 ?_
    refine g_aload_n X dX4_harm_32 0 rfl rfl ?_
    refine g_getr X 0 (by omega) 3 (by decide) ku_X4 kv_X4 kf_X4_13 rfl lS_worn dX4_harm_33 ?_
    refine g_iload_n X dX4_harm_36 1 rfl rfl ?_
    refine g_ialdN X 1 j0 (by omega) lS_a1 (by omega) (by decide) dX4_harm_37 ?_
    rw [rS_1]
    refine g_iadd X dX4_harm_38 ?_
    refine g_istore_n X [(2, .int _), (0, .ref _), (1, .int _)] dX4_harm_39 rfl (by decide) rfl ?_
    refine g_aload_n X dX4_harm_40 1 rfl rfl ?_
    refine g_getr X 0 (by omega) 5 (by decide) ku_X4 kv_X4 kf_X4_20 rfl lS_chirps dX4_harm_41 ?_
    refine g_iload_n X dX4_harm_44 2 rfl rfl ?_
    refine g_zaldN X 3 j0 (by omega) lS_a3 (by omega) (by decide) dX4_harm_45 ?_
    rw [rS_3]
    refine g_if_ne X 55 dX4_harm_46 (by decide) (fun c_4 => ?_) (fun c_4 => ?_)
    · skip
      have cC := c_4
      refine g_bipush X (v := 60) dX4_harm_55 (by decide) ?_
      refine g_goto X 61 dX4_harm_57 (by decide) ?_
      exact g_iret X hr hlk (by omega) (by omega) dX4_harm_61 (⟨hP_a cC, rfl⟩)
    · skip
      have cC := c_4
      refine g_iload_n X dX4_harm_49 0 rfl rfl ?_
      refine g_bipush X (v := 60) dX4_harm_50 (by decide) ?_
      refine g_icmp_le X 60 dX4_harm_52 (by decide) (fun c_5 => ?_) (fun c_5 => ?_)
      · skip
        have cD := c_5
        refine g_iload_n X dX4_harm_60 0 rfl rfl ?_
        exact g_iret X hr hlk (by omega) (by omega) dX4_harm_61 (⟨hP_b cC (by rw [ab_lt cA]) cD, rfl⟩)
      · skip
        have cD := c_5
        refine g_bipush X (v := 60) dX4_harm_55 (by decide) ?_
        refine g_goto X 61 dX4_harm_57 (by decide) ?_
        exact g_iret X hr hlk (by omega) (by omega) dX4_harm_61 (⟨hP_c cC (by rw [ab_lt cA]) cD, rfl⟩)

set_option maxHeartbeats 1000000 in
set_option maxRecDepth 100000 in
theorem c_X4_sound (l : Launch) (D : va_G) (cy : Nat → ClassId) (ad : Nat → Nat) (ρ : Nat → Nat → Int32) (S T : Nat) (Ln : Nat → Nat) (t : Nat) (ht : t < T) (hT6 : T ≤ 6) (hT0 : tunI ρ t) (hL0 : ρ (14 + 3 * t) 2 = nI (Ln t) ∧ Ln t ≤ 16) : gMI l yX4_sound cX4_sound 7 (some .int) { frames := 1, cells := 0, slots := 0, locals := 22 } D cy (8 + S + T) ad (cS ad cy S T Ln) [.ref (ad 0), .int (nI t)] (sR S ρ) (fun r ρ1 => r = sndC ρ 1 t (-1) ∧ ρ1 = sR S ρ) 0 0 := by
  refine gMI_of (ls := [(0, .ref (ad 0)), (1, .int (nI t))]) RX4 rfl (by decide +kernel) (Nat.le_of_ble_eq_true rfl) rfl ?_
  intro p e s m args below meth c A X hr hlk hnm
  obtain ⟨hLq, hLc⟩ := tunL hT0 hL0
  have hL16 := hL0.2
  refine g_aload_n X dX4_sound_0 0 rfl rfl ?_
  refine g_getr X 0 (by omega) 7 (by decide) ku_X4 kv_X4 kf_X4_28 rfl lS_tunes dX4_sound_1 ?_
  refine g_iload_n X dX4_sound_4 1 rfl rfl ?_
  refine g_aaldA X 5 t (by omega) lS_ts rfl (by omega) (by omega) dX4_sound_5 ?_
  refine g_alen (t0 := 0) X (8 + S + t) (by omega) (gAI.ln lS_tu) rfl dX4_sound_6 ?_
  refine g_if_ne X 12 dX4_sound_7 (by decide) (fun c_1 => ?_) (fun c_1 => ?_)
  · skip
    have cA := c_1
    refine g_iconst X (v := 0) dX4_sound_12 (by decide) ?_
    refine g_istore_n X [(2, .int _), (0, .ref _), (1, .int _)] dX4_sound_13 rfl (by decide) rfl ?_
    refine g_aload_n X dX4_sound_14 1 rfl rfl ?_
    refine g_getr X 0 (by omega) 7 (by decide) ku_X4 kv_X4 kf_X4_28 rfl lS_tunes dX4_sound_15 ?_
    refine g_iload_n X dX4_sound_18 2 rfl rfl ?_
    refine g_aaldA X 5 t (by omega) lS_ts rfl (by omega) (by omega) dX4_sound_19 ?_
    refine g_astore_n X [(3, .ref _), (2, .int _), (0, .ref _), (1, .int _)] dX4_sound_20 rfl (by decide) rfl ?_
    refine g_aload_n X dX4_sound_21 0 rfl rfl ?_
    refine g_alen (t0 := 0) X (8 + S + t) (by omega) (gAI.ln lS_tu) rfl dX4_sound_22 ?_
    refine g_istore X [(4, .int _), (3, .ref _), (2, .int _), (0, .ref _), (1, .int _)] dX4_sound_23 (by decide) rfl ?_
    refine g_iconst X (v := 0) dX4_sound_25 (by decide) ?_
    refine g_istore X [(5, .int _), (4, .int _), (3, .ref _), (2, .int _), (0, .ref _), (1, .int _)] dX4_sound_26 (by decide) rfl ?_
    refine g_ls (ls' := [(0, .ref _), (1, .int _), (2, .int _), (3, .ref _), (4, .int _), (5, .int _)]) [4, 5, 3, 2, 1, 0] rfl ?_
    refine g_loop (fun _ => True) (fun _ => sR S ρ) (fun i => [(0, .ref (ad 0)), (1, .int (nI t)), (2, .int (sumI (sdS ρ t) i)), (3, .ref (ad (8 + S + t))), (4, .int (nI (Ln t))), (5, .int (nI i))]) (fun _ => 0) (fun _ => 0) (Ln t) 0 trivial (by omega) rfl rfl rfl rfl (fun i h0i hi hIi ihi => ?_)
    refine g_iload X dX4_sound_28 5 rfl ?_
    refine g_iload X dX4_sound_30 4 rfl ?_
    refine g_icmp_geN X i (Ln t) 56 (by omega) (by omega) dX4_sound_32 (by decide) (fun c_2 => ?_) (fun c_2 => ?_)
    · skip
      refine g_bipush X (v := 60) dX4_sound_56 (by decide) ?_
      refine g_iload_n X dX4_sound_58 2 rfl rfl ?_
      refine g_aload_n X dX4_sound_59 0 rfl rfl ?_
      refine g_getr X 0 (by omega) 7 (by decide) ku_X4 kv_X4 kf_X4_28 rfl lS_tunes dX4_sound_60 ?_
      refine g_iload_n X dX4_sound_63 1 rfl rfl ?_
      refine g_aaldA X 5 t (by omega) lS_ts rfl (by omega) (by omega) dX4_sound_64 ?_
      refine g_alen (t0 := 0) X (8 + S + t) (by omega) (gAI.ln lS_tu) rfl dX4_sound_65 ?_
      refine g_idiv X dX4_sound_66 cA ?_
      refine g_isub X dX4_sound_67 ?_
      exact g_iret X hr hlk (by omega) (by omega) dX4_sound_68 (⟨by rw [snd_sim hT0 hL0, if_neg cA, show i = Ln t by omega], rfl⟩)
    · skip
      refine g_aload_n X dX4_sound_35 3 rfl rfl ?_
      refine g_iload X dX4_sound_36 5 rfl ?_
      refine g_ialdN X (8 + S + t) i (by omega) lS_tu (by omega) (by omega) dX4_sound_38 ?_
      rw [rS_tu (by omega)]
      obtain ⟨q, hq, eq9⟩ := hLq i (by omega)
      rw [eq9]
      refine g_istore X [(6, .int _), (0, .ref _), (1, .int _), (2, .int _), (3, .ref _), (4, .int _), (5, .int _)] dX4_sound_39 (by decide) rfl ?_
      refine g_iload_n X dX4_sound_41 3 rfl rfl ?_
      refine g_aload_n X dX4_sound_42 1 rfl rfl ?_
      refine g_iload X dX4_sound_43 0 rfl ?_
      refine g_mcallVi X 0 (c_X4_harm l D cy ad ρ S T Ln q (by omega)) kl_X4_38 ⟨rfl, rfl, Nat.le_of_ble_eq_true rfl, Nat.le_of_ble_eq_true rfl⟩ (by omega) lS_O kv_X4 rfl rfl (Nat.le_of_ble_eq_true rfl) dX4_sound_45 ⟨Nat.le_of_ble_eq_true rfl, Nat.le_of_ble_eq_true rfl⟩ (fun r_4 ρ_3 h_5 => ?_)
      obtain ⟨er_4, eρ_3⟩ := h_5
      rw [er_4, eρ_3]
      refine g_iadd X dX4_sound_48 ?_
      refine g_istore_n X [(2, .int _), (6, .int _), (0, .ref _), (1, .int _), (3, .ref _), (4, .int _), (5, .int _)] dX4_sound_49 rfl (by decide) rfl ?_
      refine g_iincN X i 5 [(5, .int _), (2, .int _), (6, .int _), (0, .ref _), (1, .int _), (3, .ref _), (4, .int _)] 6 dX4_sound_50 rfl (by decide) rfl ?_
      refine g_goto X 28 dX4_sound_53 (by decide) ?_
      refine g_ls (ls' := [(0, .ref _), (1, .int _), (2, .int _), (3, .ref _), (4, .int _), (5, .int _)]) [3, 4, 1, 5, 6, 0] rfl ?_
      exact g_eqv (ihi (by omega) trivial) (by simp only [sumI_s, sdS, eq9, show ix (nI q) = q from nI_clamp (by omega)]) (rfl) rfl rfl
  · skip
    have cA := c_1
    refine g_iconst X (v := 0) dX4_sound_10 (by decide) ?_
    exact g_iret X hr hlk (by omega) (by omega) dX4_sound_11 (⟨by rw [snd_sim hT0 hL0, if_pos cA], rfl⟩)

set_option maxHeartbeats 1000000 in
set_option maxRecDepth 100000 in
theorem c_X4_pays (l : Launch) (D : va_G) (cy : Nat → ClassId) (ad : Nat → Nat) (ρ : Nat → Nat → Int32) (S T : Nat) (Ln : Nat → Nat) (z t : Nat) (hz : z < S) (ht : t < T) (hT6 : T ≤ 6) (hS8 : S ≤ 8) (hT0 : tunI ρ t) (hL0 : ρ (14 + 3 * t) 2 = nI (Ln t) ∧ Ln t ≤ 16) (hpo : payOK ρ z t (sndC ρ 1 t (-1))) : gMI l yX4_pays cX4_pays 5 (some .int) { frames := 2, cells := 0, slots := 0, locals := 48 } D cy (8 + S + T) ad (cS ad cy S T Ln) [.ref (ad 0), .int (nI z), .int (nI t)] (sR S ρ) (fun r ρ1 => r = pyN ρ z t ∧ ρ1 = sR S ρ) 0 0 := by
  refine gMI_of (ls := [(0, .ref (ad 0)), (1, .int (nI z)), (2, .int (nI t))]) RX4 rfl (by decide +kernel) (Nat.le_of_ble_eq_true rfl) rfl ?_
  intro p e s m args below meth c A X hr hlk hnm
  obtain ⟨P, h, hP1, hP20, hh, hh31⟩ := hpo
  refine g_aload_n X dX4_pays_0 0 rfl rfl ?_
  refine g_getr X 0 (by omega) 8 (by decide) ku_X4 kv_X4 kf_X4_32 rfl lS_streets dX4_pays_1 ?_
  refine g_iload_n X dX4_pays_4 1 rfl rfl ?_
  refine g_aaldA X 6 z (by omega) lS_ss rfl (by omega) (by omega) dX4_pays_5 ?_
  refine g_iconst X (v := 0) dX4_pays_6 (by decide) ?_
  refine g_ialdN X (8 + z) 0 (by omega) (lS_st (by omega)) (by omega) (by decide) dX4_pays_7 ?_
  rw [rS_s0 (by omega)]
  refine g_aload_n X dX4_pays_8 0 rfl rfl ?_
  refine g_iload_n X dX4_pays_9 2 rfl rfl ?_
  refine g_mcallVi X 0 (c_X4_sound l D cy ad ρ S T Ln t (by omega) hT6 hT0 hL0) kl_X4_42 ⟨rfl, rfl, Nat.le_of_ble_eq_true rfl, Nat.le_of_ble_eq_true rfl⟩ (by omega) lS_O kv_X4 rfl rfl (Nat.le_of_ble_eq_true rfl) dX4_pays_10 ⟨Nat.le_of_ble_eq_true rfl, Nat.le_of_ble_eq_true rfl⟩ (fun r_2 ρ_1 h_3 => ?_)
  obtain ⟨er_2, eρ_1⟩ := h_3
  rw [er_2, eρ_1]
  refine g_imul X dX4_pays_13 ?_
  refine g_bipush X (v := 60) dX4_pays_14 (by decide) ?_
  refine g_idiv X dX4_pays_16 (by decide) ?_
  rw [show ρ (32 + 2 * z) 1 * sndC ρ 1 t (-1) / 60 = nI P from hP1]
  refine g_istore_n X [(3, .int _), (0, .ref _), (1, .int _), (2, .int _)] dX4_pays_17 rfl (by decide) rfl ?_
  refine g_iconst X (v := 0) dX4_pays_18 (by decide) ?_
  refine g_istore X [(4, .int _), (3, .int _), (0, .ref _), (1, .int _), (2, .int _)] dX4_pays_19 (by decide) rfl ?_
  refine g_ls (ls' := [(0, .ref _), (1, .int _), (2, .int _), (3, .int _), (4, .int _)]) [2, 3, 4, 1, 0] rfl ?_
  refine g_loop (fun _ => True) (fun _ => sR S ρ) (fun i => [(0, .ref (ad 0)), (1, .int (nI z)), (2, .int (nI t)), (3, .int (nI (P / 2 ^ i))), (4, .int (nI i))]) (fun _ => (0 + 0)) (fun _ => (0 + 0)) h 0 trivial (by omega) (by simp [nI_zero]) rfl rfl rfl (fun i h0i hi hIi ihi => ?_)
  refine g_iload X dX4_pays_21 4 rfl ?_
  refine g_aload_n X dX4_pays_23 0 rfl rfl ?_
  refine g_getr X 0 (by omega) 8 (by decide) ku_X4 kv_X4 kf_X4_32 rfl lS_streets dX4_pays_24 ?_
  refine g_iload_n X dX4_pays_27 1 rfl rfl ?_
  refine g_aaldA X 6 z (by omega) lS_ss rfl (by omega) (by omega) dX4_pays_28 ?_
  refine g_iconst X (v := 3) dX4_pays_29 (by decide) ?_
  refine g_iload_n X dX4_pays_30 2 rfl rfl ?_
  refine g_iadd X dX4_pays_31 ?_
  rw [show (3 : Int32) + nI t = nI (3 + t) from nI_add 3 t]
  refine g_ialdN X (8 + z) (3 + t) (by omega) (lS_st (by omega)) (by omega) (by decide) dX4_pays_32 ?_
  rw [rS_sh (by omega)]
  rw [hh]
  refine g_icmp_geN X i h 46 (by omega) (by omega) dX4_pays_33 (by decide) (fun c_4 => ?_) (fun c_4 => ?_)
  · skip
    refine g_iload_n X dX4_pays_46 3 rfl rfl ?_
    exact g_iret X hr hlk (by omega) (by omega) dX4_pays_47 (by refine ⟨?_, rfl⟩; simp only [pyN, payV]; rw [hP1, hh, nI_clamp (by omega), nI_clamp hh31, show i = h by omega])
  · skip
    refine g_iload_n X dX4_pays_36 3 rfl rfl ?_
    refine g_iconst X (v := 2) dX4_pays_37 (by decide) ?_
    refine g_idiv X dX4_pays_38 (by decide) ?_
    rw [halfN hP20]
    refine g_istore_n X [(3, .int _), (0, .ref _), (1, .int _), (2, .int _), (4, .int _)] dX4_pays_39 rfl (by decide) rfl ?_
    refine g_iincN X i 4 [(4, .int _), (3, .int _), (0, .ref _), (1, .int _), (2, .int _)] 4 dX4_pays_40 rfl (by decide) rfl ?_
    refine g_goto X 21 dX4_pays_43 (by decide) ?_
    refine g_ls (ls' := [(0, .ref _), (1, .int _), (2, .int _), (3, .int _), (4, .int _)]) [2, 3, 4, 1, 0] rfl ?_
    exact g_eqv (ihi (by omega) trivial) (rfl) (rfl) rfl rfl

set_option maxHeartbeats 1000000 in
set_option maxRecDepth 100000 in
theorem c_X4_sing (l : Launch) (D : va_G) (cy : Nat → ClassId) (ad : Nat → Nat) (ρ : Nat → Nat → Int32) (S T : Nat) (Ln : Nat → Nat) (t : Nat) (ht : t < T) (hT6 : T ≤ 6) (hT0 : tunI ρ t) (hL0 : ρ (14 + 3 * t) 2 = nI (Ln t) ∧ Ln t ≤ 16) (hw : ∀ i, i < 12 → ∃ w : Nat, w ≤ 30 ∧ ρ 2 i = nI w) : gMV l yX4_sing cX4_sing 6 none { frames := 0, cells := 0, slots := 0, locals := 0 } D cy (8 + S + T) ad (cS ad cy S T Ln) [.ref (ad 0), .int (nI t)] (sR S ρ) (fun ρ1 => ρ1 = sR S (wdR ρ 1 t 12)) 0 0 := by
  refine gMV_of (ls := [(0, .ref (ad 0)), (1, .int (nI t))]) RX4 rfl (by decide +kernel) (Nat.le_of_ble_eq_true rfl) rfl ?_
  intro p e s m args below meth c A X hr hlk hnm
  obtain ⟨hLq, hLc⟩ := tunL hT0 hL0
  have hL16 := hL0.2
  refine g_aload_n X dX4_sing_0 0 rfl rfl ?_
  refine g_getr X 0 (by omega) 7 (by decide) ku_X4 kv_X4 kf_X4_28 rfl lS_tunes dX4_sing_1 ?_
  refine g_iload_n X dX4_sing_4 1 rfl rfl ?_
  refine g_aaldA X 5 t (by omega) lS_ts rfl (by omega) (by omega) dX4_sing_5 ?_
  refine g_astore_n X [(2, .ref _), (0, .ref _), (1, .int _)] dX4_sing_6 rfl (by decide) rfl ?_
  refine g_aload_n X dX4_sing_7 0 rfl rfl ?_
  refine g_alen (t0 := 0) X (8 + S + t) (by omega) (gAI.ln lS_tu) rfl dX4_sing_8 ?_
  refine g_istore_n X [(3, .int _), (2, .ref _), (0, .ref _), (1, .int _)] dX4_sing_9 rfl (by decide) rfl ?_
  refine g_iconst X (v := 0) dX4_sing_10 (by decide) ?_
  refine g_istore X [(4, .int _), (3, .int _), (2, .ref _), (0, .ref _), (1, .int _)] dX4_sing_11 (by decide) rfl ?_
  refine g_ls (ls' := [(0, .ref _), (1, .int _), (2, .ref _), (3, .int _), (4, .int _)]) [3, 4, 2, 1, 0] rfl ?_
  refine g_loop (fun _ => True) (fun i => sR S (sgR ρ 1 t i)) (fun i => [(0, .ref (ad 0)), (1, .int (nI t)), (2, .ref (ad (8 + S + t))), (3, .int (nI (Ln t))), (4, .int (nI i))]) (fun _ => 0) (fun _ => 0) (Ln t) 0 trivial (by omega) rfl rfl rfl rfl (fun i h0i hi hIi ihi => ?_)
  obtain ⟨ρa, eρa⟩ : ∃ ρz, ρz = sgR ρ 1 t i := ⟨_, rfl⟩
  rw [← eρa]
  have qt : ∀ k, ρa (15 + 3 * t) k = ρ (15 + 3 * t) k := fun k => by rw [eρa, sg_out (by omega) (by omega)]
  have qw : ∀ q, q < 12 → ∃ w : Nat, w ≤ 30 ∧ ρa 2 q = nI w := fun q hq => by rw [eρa]; exact sg_w hw q hq
  refine g_iload X dX4_sing_13 4 rfl ?_
  refine g_iload_n X dX4_sing_15 3 rfl rfl ?_
  refine g_icmp_geN X i (Ln t) 62 (by omega) (by omega) dX4_sing_16 (by decide) (fun c_1 => ?_) (fun c_1 => ?_)
  · skip
    exact g_vret X hr hlk (by omega) (by omega) dX4_sing_62 (by subst_vars; rw [show i = Ln t by omega, sg_wd hL16 hLq hLc hw])
  · skip
    refine g_aload_n X dX4_sing_19 2 rfl rfl ?_
    refine g_iload X dX4_sing_20 4 rfl ?_
    refine g_ialdN X (8 + S + t) i (by omega) lS_tu (by omega) (by omega) dX4_sing_22 ?_
    rw [rS_tu (by omega)]
    obtain ⟨q, hq, eq9⟩ := hLq i (by omega)
    rw [qt, eq9]
    obtain ⟨w, hw9, ew⟩ := qw q hq
    refine g_istore X [(5, .int _), (0, .ref _), (1, .int _), (2, .ref _), (3, .int _), (4, .int _)] dX4_sing_23 (by decide) rfl ?_
    refine g_aload_n X dX4_sing_25 1 rfl rfl ?_
    refine g_getr X 0 (by omega) 3 (by decide) ku_X4 kv_X4 kf_X4_13 rfl lS_worn dX4_sing_26 ?_
    refine g_iload X dX4_sing_29 0 rfl ?_
    refine g_ialdN X 1 q (by omega) lS_a1 (by omega) (by decide) dX4_sing_31 ?_
    rw [rS_1]
    rw [ew]
    refine g_bipush X (v := 30) dX4_sing_32 (by decide) ?_
    refine g_icmp_geN X w 30 48 (by omega) (by omega) dX4_sing_34 (by decide) (fun c_2 => ?_) (fun c_2 => ?_)
    · skip
      have cW := c_2
      refine g_aload_n X dX4_sing_48 1 rfl rfl ?_
      refine g_getr X 0 (by omega) 6 (by decide) ku_X4 kv_X4 kf_X4_24 rfl lS_sang dX4_sing_49 ?_
      refine g_iload X dX4_sing_52 0 rfl ?_
      refine g_iconst X (v := 1) dX4_sing_54 (by decide) ?_
      refine g_zastN X 4 q (by omega) lS_a4 vp_z1 (by omega) (by decide) dX4_sing_55 (fun ρ_3 eρ_3 => ?_)
      obtain ⟨σ_4, sσ_4, rfl⟩ := wX eρ_3 wS_4
      refine g_iincN X i 4 [(4, .int _), (5, .int _), (0, .ref _), (1, .int _), (2, .ref _), (3, .int _)] 5 dX4_sing_56 rfl (by decide) rfl ?_
      refine g_goto X 13 dX4_sing_59 (by decide) ?_
      refine g_ls (ls' := [(0, .ref _), (1, .int _), (2, .ref _), (3, .int _), (4, .int _)]) [2, 3, 4, 5, 0] rfl ?_
      exact g_eqv (ihi (by omega) trivial) (rfl) (by
                refine congrArg (sR S) ?_
                subst_vars
                show _ = snR (sgR ρ 1 t i) 1 (ix (ρ (15 + 3 * t) i))
                rw [eq9, show ix (nI q) = q from nI_clamp (by omega)]
                first | exact sg_s1 ew cW | exact sg_s2 ew cW hw9) rfl rfl
    · skip
      have cW : w < 30 := by omega
      refine g_aload_n X dX4_sing_37 1 rfl rfl ?_
      refine g_getr X 0 (by omega) 3 (by decide) ku_X4 kv_X4 kf_X4_13 rfl lS_worn dX4_sing_38 ?_
      refine g_iload X dX4_sing_41 0 rfl ?_
      refine g_dup2 X dX4_sing_43 rfl rfl ?_
      refine g_ialdN X 1 q (by omega) lS_a1 (by omega) (by decide) dX4_sing_44 ?_
      rw [rS_1]
      rw [ew]
      refine g_iconst X (v := 1) dX4_sing_45 (by decide) ?_
      refine g_iadd X dX4_sing_46 ?_
      rw [nI_1]
      refine g_iastN X 1 q (by omega) lS_a1 (by omega) (by decide) dX4_sing_47 (fun ρ_5 eρ_5 => ?_)
      obtain ⟨σ_6, sσ_6, rfl⟩ := wX eρ_5 wS_1
      refine g_aload_n X dX4_sing_48 1 rfl rfl ?_
      refine g_getr X 0 (by omega) 6 (by decide) ku_X4 kv_X4 kf_X4_24 rfl lS_sang dX4_sing_49 ?_
      refine g_iload X dX4_sing_52 0 rfl ?_
      refine g_iconst X (v := 1) dX4_sing_54 (by decide) ?_
      refine g_zastN X 4 q (by omega) lS_a4 vp_z1 (by omega) (by decide) dX4_sing_55 (fun ρ_7 eρ_7 => ?_)
      obtain ⟨σ_8, sσ_8, rfl⟩ := wX eρ_7 wS_4
      refine g_iincN X i 4 [(4, .int _), (5, .int _), (0, .ref _), (1, .int _), (2, .ref _), (3, .int _)] 5 dX4_sing_56 rfl (by decide) rfl ?_
      refine g_goto X 13 dX4_sing_59 (by decide) ?_
      refine g_ls (ls' := [(0, .ref _), (1, .int _), (2, .ref _), (3, .int _), (4, .int _)]) [2, 3, 4, 5, 0] rfl ?_
      exact g_eqv (ihi (by omega) trivial) (rfl) (by
                refine congrArg (sR S) ?_
                subst_vars
                show _ = snR (sgR ρ 1 t i) 1 (ix (ρ (15 + 3 * t) i))
                rw [eq9, show ix (nI q) = q from nI_clamp (by omega)]
                first | exact sg_s1 ew cW | exact sg_s2 ew cW hw9) rfl rfl

set_option maxHeartbeats 1000000 in
set_option maxRecDepth 100000 in
theorem c_X4_play (l : Launch) (D : va_G) (cy : Nat → ClassId) (ad : Nat → Nat) (ρ : Nat → Nat → Int32) (S T : Nat) (Ln : Nat → Nat) (z t d : Nat) (hz : z < S) (ht : t < T) (hT6 : T ≤ 6) (hS8 : S ≤ 8) (hT0 : tunI ρ t) (hL0 : ρ (14 + 3 * t) 2 = nI (Ln t) ∧ Ln t ≤ 16) (hpo : payOK ρ z t (sndC ρ 1 t (-1))) (hwd : wdF ρ = nI (d % 7)) (hd : ρ 0 7 = nI d) (hd31 : d < 2 ^ 30) (hpm : ∃ u : Nat, u ≤ 127 ∧ ρ (32 + 2 * z) 2 = nI u) (hw : ∀ i, i < 12 → ∃ w : Nat, w ≤ 30 ∧ ρ 2 i = nI w) : gMI l yX4_play cX4_play 5 (some .int) { frames := 3, cells := 0, slots := 0, locals := 72 } D cy (8 + S + T) ad (cS ad cy S T Ln) [.ref (ad 0), .int (nI z), .int (nI t)] (sR S ρ) (fun r ρ1 => r = plV ρ z t ∧ ρ1 = sR S (plR ρ z t)) 0 0 := by
  refine gMI_of (ls := [(0, .ref (ad 0)), (1, .int (nI z)), (2, .int (nI t))]) RX4 rfl (by decide +kernel) (Nat.le_of_ble_eq_true rfl) rfl ?_
  intro p e s m args below meth c A X hr hlk hnm
  obtain ⟨u, hu, eu⟩ := hpm
  refine g_aload_n X dX4_play_0 0 rfl rfl ?_
  refine g_getr X 0 (by omega) 8 (by decide) ku_X4 kv_X4 kf_X4_32 rfl lS_streets dX4_play_1 ?_
  refine g_iload_n X dX4_play_4 1 rfl rfl ?_
  refine g_aaldA X 6 z (by omega) lS_ss rfl (by omega) (by omega) dX4_play_5 ?_
  refine g_astore_n X [(3, .ref _), (0, .ref _), (1, .int _), (2, .int _)] dX4_play_6 rfl (by decide) rfl ?_
  refine g_aload_n X dX4_play_7 0 rfl rfl ?_
  refine g_iconst X (v := 1) dX4_play_8 (by decide) ?_
  refine g_ialdN X (8 + z) 1 (by omega) (lS_st (by omega)) (by omega) (by decide) dX4_play_9 ?_
  rw [rS_s1 (by omega)]
  rw [eu]
  refine g_iconst X (v := 1) dX4_play_10 (by decide) ?_
  refine g_aload_n X dX4_play_11 1 rfl rfl ?_
  refine g_geti X 0 (by omega) 0 (by decide) ku_X4 kv_X4 kf_X4_45 rfl lS_day dX4_play_12 ?_
  rw [rS_day, hd]
  refine g_bipush X (v := 7) dX4_play_15 (by decide) ?_
  refine g_irem X dX4_play_17 (by decide) ?_
  rw [remN7 (by omega)]
  refine g_ishl X dX4_play_18 ?_
  refine g_iand X dX4_play_19 ?_
  refine g_if_ne X 69 dX4_play_20 (by decide) (fun c_1 => ?_) (fun c_1 => ?_)
  · skip
    have cP : ¬ pmF (ρ (32 + 2 * z) 2) (wdF ρ) = 0 := by rw [eu, hwd]; exact fun q => c_1 ((pm_sh hu (by omega)).mpr q)
    refine g_aload_n X dX4_play_69 1 rfl rfl ?_
    refine g_iload_n X dX4_play_70 2 rfl rfl ?_
    refine g_iload_n X dX4_play_71 3 rfl rfl ?_
    refine g_mcallVi X 0 (c_X4_pays l D cy ad ρ S T Ln z t (by omega) (by omega) hT6 hS8 hT0 hL0 hpo) kl_X4_51 ⟨rfl, rfl, Nat.le_of_ble_eq_true rfl, Nat.le_of_ble_eq_true rfl⟩ (by omega) lS_O kv_X4 rfl rfl (Nat.le_of_ble_eq_true rfl) dX4_play_72 ⟨Nat.le_of_ble_eq_true rfl, Nat.le_of_ble_eq_true rfl⟩ (fun r_3 ρ_2 h_4 => ?_)
    obtain ⟨er_3, eρ_2⟩ := h_4
    rw [er_3, eρ_2]
    refine g_istore X [(4, .int _), (3, .ref _), (0, .ref _), (1, .int _), (2, .int _)] dX4_play_75 (by decide) rfl ?_
    refine g_aload_n X dX4_play_77 2 rfl rfl ?_
    refine g_dup X dX4_play_78 rfl ?_
    refine g_geti X 0 (by omega) 1 (by decide) ku_X4 kv_X4 kf_X4_7 rfl lS_coins dX4_play_79 ?_
    rw [rS_coins]
    refine g_iload X dX4_play_82 0 rfl ?_
    refine g_iadd X dX4_play_84 ?_
    refine g_puti X 0 (by omega) 1 (by decide) ku_X4 kv_X4 kf_X4_7 rfl tyX4 tyX4_ok nmX4 rfl (by decide +kernel) lS_coins dX4_play_85 (fun ρ_5 eρ_5 => ?_)
    obtain ⟨σ_6, sσ_6, rfl⟩ := wX eρ_5 wS_coins
    refine g_aload_n X dX4_play_88 1 rfl rfl ?_
    refine g_iconst X (v := 2) dX4_play_89 (by decide) ?_
    refine g_dup2 X dX4_play_90 rfl rfl ?_
    refine g_ialdN X (8 + z) 2 (by omega) (lS_st (by omega)) (by omega) (by decide) dX4_play_91 ?_
    rw [rS_s2 (by omega)]
    rw [show σ_6 (32 + 2 * z) 3 = ρ (32 + 2 * z) 3 by subst_vars; rw [up2_k (by omega)]]
    refine g_iload X dX4_play_92 0 rfl ?_
    refine g_iadd X dX4_play_94 ?_
    refine g_iastN X (8 + z) 2 (by omega) (lS_st (by omega)) (by omega) (by decide) dX4_play_95 (fun ρ_7 eρ_7 => ?_)
    obtain ⟨σ_8, sσ_8, rfl⟩ := wX eρ_7 (wS_s2 (by omega))
    refine g_aload_n X dX4_play_96 1 rfl rfl ?_
    refine g_iconst X (v := 3) dX4_play_97 (by decide) ?_
    refine g_iload_n X dX4_play_98 4 rfl rfl ?_
    refine g_iadd X dX4_play_99 ?_
    rw [show (3 : Int32) + nI t = nI (3 + t) from nI_add 3 t]
    refine g_dup2 X dX4_play_100 rfl rfl ?_
    refine g_ialdN X (8 + z) (3 + t) (by omega) (lS_st (by omega)) (by omega) (by decide) dX4_play_101 ?_
    rw [rS_sh (by omega)]
    rw [show σ_8 (33 + 2 * z) t = ρ (33 + 2 * z) t by subst_vars; rw [up2_k (by omega), up2_k (by omega)]]
    refine g_iconst X (v := 1) dX4_play_102 (by decide) ?_
    refine g_iadd X dX4_play_103 ?_
    refine g_iastN X (8 + z) (3 + t) (by omega) (lS_st (by omega)) (by omega) (by decide) dX4_play_104 (fun ρ_9 eρ_9 => ?_)
    obtain ⟨σ_10, sσ_10, rfl⟩ := wX eρ_9 (wS_sh (by omega))
    have hk : ∀ k, k ≠ 0 → k ≠ 32 + 2 * z → k ≠ 33 + 2 * z → σ_10 k = ρ k := fun k h1 h2 h3 => by subst_vars; funext j; rw [up2_k h3, up2_k h2, up2_k h1]
    have hT9 : tunI σ_10 t := tun_cg hT0 (fun k h1 h2 => hk k (by omega) (by omega) (by omega))
    have hL9 : σ_10 (14 + 3 * t) 2 = nI (Ln t) ∧ Ln t ≤ 16 := by rw [hk _ (by omega) (by omega) (by omega)]; exact hL0
    have hw9 : ∀ i, i < 12 → ∃ w : Nat, w ≤ 30 ∧ σ_10 2 i = nI w := fun i hi => by rw [hk 2 (by omega) (by omega) (by omega)]; exact hw i hi
    refine g_aload_n X dX4_play_105 2 rfl rfl ?_
    refine g_iload_n X dX4_play_106 4 rfl rfl ?_
    refine g_mcallVv X 0 (c_X4_sing l D cy ad σ_10 S T Ln t (by omega) hT6 hT9 hL9 hw9) kl_X4_55 ⟨rfl, rfl, Nat.le_of_ble_eq_true rfl, Nat.le_of_ble_eq_true rfl⟩ (by omega) lS_O kv_X4 rfl rfl (Nat.le_of_ble_eq_true rfl) dX4_play_107 ⟨Nat.le_of_ble_eq_true rfl, Nat.le_of_ble_eq_true rfl⟩ (fun ρ_11 h_13 => ?_)
    rw [h_13]
    refine g_iload X dX4_play_110 0 rfl ?_
    exact g_iret X hr hlk (by omega) (by omega) dX4_play_112 (by unfold plV plR; rw [if_neg cP, if_neg cP]; subst_vars; exact ⟨rfl, rfl⟩)
  · skip
    have cP : pmF (ρ (32 + 2 * z) 2) (wdF ρ) = 0 := by rw [eu, hwd]; exact (pm_sh hu (by omega)).mp c_1
    refine g_join 41 (mnI 10 (ρ 0 8)) (fun kj_14 => ?_) ?_
    · skip
      refine g_aload_n X dX4_play_23 1 rfl rfl ?_
      refine g_geti X 0 (by omega) 1 (by decide) ku_X4 kv_X4 kf_X4_7 rfl lS_coins dX4_play_24 ?_
      rw [rS_coins]
      refine g_bipush X (v := 10) dX4_play_27 (by decide) ?_
      refine g_icmp_le X 37 dX4_play_29 (by decide) (fun c_15 => ?_) (fun c_15 => ?_)
      · skip
        have cJ := c_15
        refine g_aload_n X dX4_play_37 1 rfl rfl ?_
        refine g_geti X 0 (by omega) 1 (by decide) ku_X4 kv_X4 kf_X4_7 rfl lS_coins dX4_play_38 ?_
        rw [rS_coins]
        exact kj_14 _ ((mn10_le cJ).symm)
      · skip
        have cJ := c_15
        refine g_bipush X (v := 10) dX4_play_32 (by decide) ?_
        refine g_goto X 41 dX4_play_34 (by decide) ?_
        exact kj_14 _ ((mn10_gt cJ).symm)
    refine g_istore X [(4, .int _), (3, .ref _), (0, .ref _), (1, .int _), (2, .int _)] dX4_play_41 (by decide) rfl ?_
    refine g_aload_n X dX4_play_43 2 rfl rfl ?_
    refine g_dup X dX4_play_44 rfl ?_
    refine g_geti X 0 (by omega) 1 (by decide) ku_X4 kv_X4 kf_X4_7 rfl lS_coins dX4_play_45 ?_
    rw [rS_coins]
    refine g_iload X dX4_play_48 0 rfl ?_
    refine g_isub X dX4_play_50 ?_
    refine g_puti X 0 (by omega) 1 (by decide) ku_X4 kv_X4 kf_X4_7 rfl tyX4 tyX4_ok nmX4 rfl (by decide +kernel) lS_coins dX4_play_51 (fun ρ_16 eρ_16 => ?_)
    obtain ⟨σ_17, sσ_17, rfl⟩ := wX eρ_16 wS_coins
    refine g_aload_n X dX4_play_54 2 rfl rfl ?_
    refine g_dup X dX4_play_55 rfl ?_
    refine g_geti X 0 (by omega) 2 (by decide) ku_X4 kv_X4 kf_X4_48 rfl lS_fines dX4_play_56 ?_
    rw [rS_fines]
    refine g_iload X dX4_play_59 0 rfl ?_
    refine g_iadd X dX4_play_61 ?_
    refine g_puti X 0 (by omega) 2 (by decide) ku_X4 kv_X4 kf_X4_48 rfl tyX4 tyX4_ok nmX4 rfl (by decide +kernel) lS_fines dX4_play_62 (fun ρ_18 eρ_18 => ?_)
    obtain ⟨σ_19, sσ_19, rfl⟩ := wX eρ_18 wS_fines
    refine g_iload X dX4_play_65 0 rfl ?_
    refine g_ineg X dX4_play_67 ?_
    exact g_iret X hr hlk (by omega) (by omega) dX4_play_68 (by unfold plV plR; rw [if_pos cP, if_pos cP]; subst_vars; exact ⟨rfl, rfl⟩)

set_option maxHeartbeats 1000000 in
set_option maxRecDepth 100000 in
theorem c_X4_rest (l : Launch) (D : va_G) (cy : Nat → ClassId) (ad : Nat → Nat) (ρ : Nat → Nat → Int32) (S T : Nat) (Ln : Nat → Nat) (d : Nat) (hd : ρ 0 7 = nI d) (hd31 : d < 2 ^ 30) (hS8 : S ≤ 8) (hS : ρ 0 6 = nI S) (hPi : ∀ i, i < 12 → pipI ρ 1 i) : gMI l yX4_rest cX4_rest 7 (some .int) { frames := 0, cells := 0, slots := 0, locals := 0 } D cy (8 + S + T) ad (cS ad cy S T Ln) [.ref (ad 0)] (sR S ρ) (fun r ρ1 => r = csF ρ 1 d 1 ∧ ρ1 = sR S (resR ρ 1)) 0 0 := by
  refine gMI_of (ls := [(0, .ref (ad 0))]) RX4 rfl (by decide +kernel) (Nat.le_of_ble_eq_true rfl) rfl ?_
  intro p e s m args below meth c A X hr hlk hnm
  refine g_iconst X (v := 0) dX4_rest_0 (by decide) ?_
  refine g_istore_n X [(1, .int _), (0, .ref _)] dX4_rest_1 rfl (by decide) rfl ?_
  refine g_iconst X (v := 0) dX4_rest_2 (by decide) ?_
  refine g_istore_n X [(2, .int _), (1, .int _), (0, .ref _)] dX4_rest_3 rfl (by decide) rfl ?_
  refine g_ls (ls' := [(0, .ref _), (1, .int _), (2, .int _)]) [2, 1, 0] rfl ?_
  refine g_loop (fun _ => True) (fun i => sR S (ntR ρ 1 (ρ 13 (d % 7)) i)) (fun i => [(0, .ref (ad 0)), (1, .int (sumI (cmB ρ 1) i)), (2, .int (nI i))]) (fun _ => 0) (fun _ => 0) 12 0 trivial (by omega) rfl (congrArg (sR S) (by funext k j; simp [ntR])) rfl rfl (fun i h0i hi hIi ihi => ?_)
  obtain ⟨ρa, eρa⟩ : ∃ ρz, ρz = ntR ρ 1 (ρ 13 (d % 7)) i := ⟨_, rfl⟩
  rw [← eρa]
  have q2 : ρa 2 i = ρ 2 i := by rw [eρa]; simp [ntR]
  have q3 : ρa 3 i = ρ 3 i := by rw [eρa]; simp [ntR]
  have q4 : ρa 4 i = ρ 4 i := by rw [eρa]; simp [ntR]
  have q5 : ρa 5 i = ρ 5 i := by rw [eρa]; simp [ntR]
  have q0 : ∀ j, ρa 0 j = ρ 0 j := fun j => by rw [eρa]; simp [ntR]
  have q13 : ∀ j, ρa 13 j = ρ 13 j := fun j => by rw [eρa]; simp [ntR]
  refine g_iload_n X dX4_rest_4 2 rfl rfl ?_
  refine g_bipush X (v := 12) dX4_rest_5 (by decide) ?_
  refine g_icmp_geN X i 12 181 (by omega) (by omega) dX4_rest_7 (by decide) (fun c_1 => ?_) (fun c_1 => ?_)
  · skip
    refine g_aload_n X dX4_rest_181 0 rfl rfl ?_
    refine g_getr X 0 (by omega) 8 (by decide) ku_X4 kv_X4 kf_X4_32 rfl lS_streets dX4_rest_182 ?_
    refine g_astore_n X [(2, .ref _), (0, .ref _), (1, .int _)] dX4_rest_185 rfl (by decide) rfl ?_
    refine g_aload_n X dX4_rest_186 0 rfl rfl ?_
    refine g_alen (t0 := 4) X 6 (by omega) (gAR.ln lS_ss) rfl dX4_rest_187 ?_
    refine g_istore_n X [(3, .int _), (2, .ref _), (0, .ref _), (1, .int _)] dX4_rest_188 rfl (by decide) rfl ?_
    refine g_iconst X (v := 0) dX4_rest_189 (by decide) ?_
    refine g_istore X [(4, .int _), (3, .int _), (2, .ref _), (0, .ref _), (1, .int _)] dX4_rest_190 (by decide) rfl ?_
    have hi12 : i = 12 := by omega
    subst hi12
    refine g_ls (ls' := [(0, .ref _), (1, .int _), (2, .ref _), (3, .int _), (4, .int _)]) [3, 4, 2, 1, 0] rfl ?_
    refine g_loop (fun _ => True) (fun y => sR S (fgA ρa y)) (fun y => [(0, .ref (ad 0)), (1, .int (sumI (cmB ρ 1) 12)), (2, .ref (ad 6)), (3, .int (nI S)), (4, .int (nI y))]) (fun _ => (0)) (fun _ => (0)) S 0 trivial (by omega) rfl (congrArg (sR S) fgA_0.symm) rfl rfl (fun y h0y hy hIy ihy => ?_)
    obtain ⟨ρb, eρb⟩ : ∃ ρz, ρz = fgA ρa y := ⟨_, rfl⟩
    rw [← eρb]
    refine g_iload X dX4_rest_192 4 rfl ?_
    refine g_iload_n X dX4_rest_194 3 rfl rfl ?_
    refine g_icmp_geN X y S 232 (by omega) (by omega) dX4_rest_195 (by decide) (fun c_2 => ?_) (fun c_2 => ?_)
    · skip
      refine g_aload_n X dX4_rest_232 0 rfl rfl ?_
      refine g_dup X dX4_rest_233 rfl ?_
      refine g_geti X 0 (by omega) 0 (by decide) ku_X4 kv_X4 kf_X4_45 rfl lS_day dX4_rest_234 ?_
      rw [rS_day]
      rw [show ρb 0 7 = nI d by rw [eρb]; unfold fgA; rw [if_neg (by omega), q0]; exact hd]
      refine g_iconst X (v := 1) dX4_rest_237 (by decide) ?_
      refine g_iadd X dX4_rest_238 ?_
      rw [nI_1]
      refine g_puti X 0 (by omega) 0 (by decide) ku_X4 kv_X4 kf_X4_45 rfl tyX4 tyX4_ok nmX4 rfl (by decide +kernel) lS_day dX4_rest_239 (fun ρ_3 eρ_3 => ?_)
      obtain ⟨σ_4, sσ_4, rfl⟩ := wX eρ_3 wS_day
      refine g_iload_n X dX4_rest_242 1 rfl rfl ?_
      exact g_iret X hr hlk (by omega) (by omega) dX4_rest_243 (by subst_vars; refine ⟨by simp only [csF, nsR, Int32.zero_add], congrArg (sR S) ?_⟩; unfold resR; rw [hd, hS, show ix (nI d) = d from nI_clamp (by omega), show ix (nI S) = S from nI_clamp (by omega), show y = S by omega]; rfl)
    · skip
      refine g_aload_n X dX4_rest_198 2 rfl rfl ?_
      refine g_iload X dX4_rest_199 4 rfl ?_
      refine g_aaldA X 6 y (by omega) lS_ss rfl (by omega) (by omega) dX4_rest_201 ?_
      refine g_astore X [(5, .ref _), (0, .ref _), (1, .int _), (2, .ref _), (3, .int _), (4, .int _)] dX4_rest_202 (by decide) rfl ?_
      refine g_iconst X (v := 3) dX4_rest_204 (by decide) ?_
      refine g_istore X [(6, .int _), (5, .ref _), (0, .ref _), (1, .int _), (2, .ref _), (3, .int _), (4, .int _)] dX4_rest_205 (by decide) rfl ?_
      refine g_ls (ls' := [(0, .ref _), (1, .int _), (2, .ref _), (3, .int _), (4, .int _), (5, .ref _), (6, .int _)]) [2, 3, 4, 5, 6, 1, 0] rfl ?_
      refine g_loop (fun _ => True) (fun k => sR S (fgR ρb y (k - 3))) (fun k => [(0, .ref (ad 0)), (1, .int (sumI (cmB ρ 1) 12)), (2, .ref (ad 6)), (3, .int (nI S)), (4, .int (nI y)), (5, .ref (ad (8 + y))), (6, .int (nI k))]) (fun _ => ((0))) (fun _ => ((0))) 9 3 trivial (by omega) rfl (congrArg (sR S) (by funext k j; simp [fgR])) rfl rfl (fun k h0k hk hIk ihk => ?_)
      obtain ⟨kk, rfl⟩ : ∃ kk, k = 3 + kk := ⟨k - 3, by omega⟩
      rw [show 3 + kk - 3 = kk by omega]
      obtain ⟨ρc, eρc⟩ : ∃ ρz, ρz = fgR ρb y kk := ⟨_, rfl⟩
      rw [← eρc]
      refine g_iload X dX4_rest_207 6 rfl ?_
      refine g_bipush X (v := 9) dX4_rest_209 (by decide) ?_
      refine g_icmp_geN X (3 + kk) 9 226 (by omega) (by omega) dX4_rest_211 (by decide) (fun c_5 => ?_) (fun c_5 => ?_)
      · skip
        refine g_iincN X y 4 [(4, .int _), (0, .ref _), (1, .int _), (2, .ref _), (3, .int _), (5, .ref _), (6, .int _)] 4 dX4_rest_226 rfl (by decide) rfl ?_
        refine g_goto X 192 dX4_rest_229 (by decide) ?_
        refine g_ls (ls' := [(0, .ref _), (1, .int _), (2, .ref _), (3, .int _), (4, .int _)]) [1, 2, 3, 4, 0] rfl ?_
        exact g_eqv (ihy (by omega) trivial) (rfl) (by
              refine congrArg (sR S) ?_
              subst_vars
              obtain rfl : kk = 6 := by omega
              funext k j
              simp only [fgR, fgA]
              grind) rfl rfl
      · skip
        refine g_aload X dX4_rest_214 5 rfl ?_
        refine g_iload X dX4_rest_216 6 rfl ?_
        refine g_iconst X (v := 0) dX4_rest_218 (by decide) ?_
        refine g_iastN X (8 + y) (3 + kk) (by omega) (lS_st (by omega)) (by omega) (by decide) dX4_rest_219 (fun ρ_6 eρ_6 => ?_)
        obtain ⟨σ_7, sσ_7, rfl⟩ := wX eρ_6 (wS_sh (by omega))
        refine g_iincN X (3 + kk) 6 [(6, .int _), (0, .ref _), (1, .int _), (2, .ref _), (3, .int _), (4, .int _), (5, .ref _)] 6 dX4_rest_220 rfl (by decide) rfl ?_
        refine g_goto X 207 dX4_rest_223 (by decide) ?_
        refine g_ls (ls' := [(0, .ref _), (1, .int _), (2, .ref _), (3, .int _), (4, .int _), (5, .ref _), (6, .int _)]) [1, 2, 3, 4, 5, 6, 0] rfl ?_
        exact g_eqv (ihk (by omega) trivial) (rfl) (by
                  refine congrArg (sR S) ?_
                  subst_vars
                  rw [show 3 + kk + 1 - 3 = kk + 1 by omega]
                  funext k j
                  simp only [up2_e, fgR]
                  grind) rfl rfl
  · skip
    refine g_iload_n X dX4_rest_10 1 rfl rfl ?_
    refine g_join 45 (cmB ρ 1 i) (fun kj_8 => ?_) ?_
    · skip
      refine g_aload_n X dX4_rest_11 0 rfl rfl ?_
      refine g_getr X 0 (by omega) 3 (by decide) ku_X4 kv_X4 kf_X4_13 rfl lS_worn dX4_rest_12 ?_
      refine g_iload_n X dX4_rest_15 2 rfl rfl ?_
      refine g_ialdN X 1 i (by omega) lS_a1 (by omega) (by decide) dX4_rest_16 ?_
      rw [rS_1]
      rw [q2]
      refine g_bipush X (v := 9) dX4_rest_17 (by decide) ?_
      refine g_icmp_le X 44 dX4_rest_19 (by decide) (fun c_9 => ?_) (fun c_9 => ?_)
      · skip
        have cA := c_9
        refine g_iconst X (v := 0) dX4_rest_44 (by decide) ?_
        exact kj_8 _ (cm_a cA)
      · skip
        have cA := c_9
        refine g_aload_n X dX4_rest_22 0 rfl rfl ?_
        refine g_getr X 0 (by omega) 6 (by decide) ku_X4 kv_X4 kf_X4_24 rfl lS_sang dX4_rest_23 ?_
        refine g_iload_n X dX4_rest_26 2 rfl rfl ?_
        refine g_zaldN X 4 i (by omega) lS_a4 (by omega) (by decide) dX4_rest_27 ?_
        rw [rS_4]
        rw [q5]
        refine g_if_ne X 44 dX4_rest_28 (by decide) (fun c_10 => ?_) (fun c_10 => ?_)
        · skip
          have cB := c_10
          refine g_iconst X (v := 0) dX4_rest_44 (by decide) ?_
          exact kj_8 _ (cm_b cA cB)
        · skip
          have cB := c_10
          refine g_aload_n X dX4_rest_31 0 rfl rfl ?_
          refine g_getr X 0 (by omega) 5 (by decide) ku_X4 kv_X4 kf_X4_20 rfl lS_chirps dX4_rest_32 ?_
          refine g_iload_n X dX4_rest_35 2 rfl rfl ?_
          refine g_zaldN X 3 i (by omega) lS_a3 (by omega) (by decide) dX4_rest_36 ?_
          rw [rS_3]
          rw [q4]
          refine g_if_ne X 44 dX4_rest_37 (by decide) (fun c_11 => ?_) (fun c_11 => ?_)
          · skip
            have cC := c_11
            refine g_iconst X (v := 0) dX4_rest_44 (by decide) ?_
            exact kj_8 _ (cm_c cA cB cC)
          · skip
            have cC := c_11
            refine g_iconst X (v := 1) dX4_rest_40 (by decide) ?_
            refine g_goto X 45 dX4_rest_41 (by decide) ?_
            exact kj_8 _ (cm_d cA cB cC)
    refine g_iadd X dX4_rest_45 ?_
    refine g_istore_n X [(1, .int _), (0, .ref _), (2, .int _)] dX4_rest_46 rfl (by decide) rfl ?_
    refine g_aload_n X dX4_rest_47 1 rfl rfl ?_
    refine g_getr X 0 (by omega) 5 (by decide) ku_X4 kv_X4 kf_X4_20 rfl lS_chirps dX4_rest_48 ?_
    refine g_iload_n X dX4_rest_51 2 rfl rfl ?_
    refine g_dup2 X dX4_rest_52 rfl rfl ?_
    refine g_zaldN X 3 i (by omega) lS_a3 (by omega) (by decide) dX4_rest_53 ?_
    rw [rS_3]
    rw [q4]
    refine g_join 79 (cm2 ρ i) (fun kj_12 => ?_) ?_
    · skip
      refine g_aload_n X dX4_rest_54 1 rfl rfl ?_
      refine g_getr X 0 (by omega) 3 (by decide) ku_X4 kv_X4 kf_X4_13 rfl lS_worn dX4_rest_55 ?_
      refine g_iload_n X dX4_rest_58 2 rfl rfl ?_
      refine g_ialdN X 1 i (by omega) lS_a1 (by omega) (by decide) dX4_rest_59 ?_
      rw [rS_1]
      rw [q2]
      refine g_bipush X (v := 9) dX4_rest_60 (by decide) ?_
      refine g_icmp_le X 78 dX4_rest_62 (by decide) (fun c_13 => ?_) (fun c_13 => ?_)
      · skip
        have cA := c_13
        refine g_iconst X (v := 0) dX4_rest_78 (by decide) ?_
        exact kj_12 _ (cm2_a cA)
      · skip
        have cA := c_13
        refine g_aload_n X dX4_rest_65 1 rfl rfl ?_
        refine g_getr X 0 (by omega) 6 (by decide) ku_X4 kv_X4 kf_X4_24 rfl lS_sang dX4_rest_66 ?_
        refine g_iload_n X dX4_rest_69 2 rfl rfl ?_
        refine g_zaldN X 4 i (by omega) lS_a4 (by omega) (by decide) dX4_rest_70 ?_
        rw [rS_4]
        rw [q5]
        refine g_if_ne X 78 dX4_rest_71 (by decide) (fun c_14 => ?_) (fun c_14 => ?_)
        · skip
          have cB := c_14
          refine g_iconst X (v := 0) dX4_rest_78 (by decide) ?_
          exact kj_12 _ (cm2_b cA cB)
        · skip
          have cB := c_14
          refine g_iconst X (v := 1) dX4_rest_74 (by decide) ?_
          refine g_goto X 79 dX4_rest_75 (by decide) ?_
          exact kj_12 _ (cm2_c cA cB)
    refine g_ior X dX4_rest_79 ?_
    rw [or_cm (hPi i (by omega))]
    refine g_zastN X 3 i (by omega) lS_a3 (vp_z01 (cm_01 (hPi i (by omega)))) (by omega) (by decide) dX4_rest_80 (fun ρ_15 eρ_15 => ?_)
    obtain ⟨σ_16, sσ_16, rfl⟩ := wX eρ_15 wS_3
    refine g_aload_n X dX4_rest_81 1 rfl rfl ?_
    refine g_getr X 0 (by omega) 6 (by decide) ku_X4 kv_X4 kf_X4_24 rfl lS_sang dX4_rest_82 ?_
    refine g_iload_n X dX4_rest_85 2 rfl rfl ?_
    refine g_iconst X (v := 0) dX4_rest_86 (by decide) ?_
    refine g_zastN X 4 i (by omega) lS_a4 vp_z0 (by omega) (by decide) dX4_rest_87 (fun ρ_17 eρ_17 => ?_)
    obtain ⟨σ_18, sσ_18, rfl⟩ := wX eρ_17 wS_4
    refine g_aload_n X dX4_rest_88 1 rfl rfl ?_
    refine g_getr X 0 (by omega) 4 (by decide) ku_X4 kv_X4 kf_X4_17 rfl lS_off dX4_rest_89 ?_
    refine g_iload_n X dX4_rest_92 2 rfl rfl ?_
    refine g_dup2 X dX4_rest_93 rfl rfl ?_
    refine g_ialdN X 2 i (by omega) lS_a2 (by omega) (by decide) dX4_rest_94 ?_
    rw [rS_2]
    rw [show σ_18 3 i = ρ 3 i by subst_vars; rw [up2_k (by omega), up2_k (by omega)]; exact q3]
    refine g_join 129 (par (ρ 13 (d % 7)) i) (fun kj_19 => ?_) ?_
    · skip
      refine g_iload_n X dX4_rest_95 2 rfl rfl ?_
      refine g_iconst X (v := 2) dX4_rest_96 (by decide) ?_
      refine g_irem X dX4_rest_97 (by decide) ?_
      rw [remN (by omega)]
      refine g_if_ne X 116 dX4_rest_98 (by decide) (fun c_20 => ?_) (fun c_20 => ?_)
      · skip
        have cD := c_20
        refine g_aload_n X dX4_rest_116 1 rfl rfl ?_
        refine g_getr X 0 (by omega) 9 (by decide) ku_X4 kv_X4 kf_X4_35 rfl lS_damp dX4_rest_117 ?_
        refine g_aload_n X dX4_rest_120 1 rfl rfl ?_
        refine g_geti X 0 (by omega) 0 (by decide) ku_X4 kv_X4 kf_X4_45 rfl lS_day dX4_rest_121 ?_
        rw [rS_day]
        rw [show σ_18 0 7 = nI d by subst_vars; rw [up2_k (by omega), up2_k (by omega), q0]; exact hd]
        refine g_bipush X (v := 7) dX4_rest_124 (by decide) ?_
        refine g_irem X dX4_rest_126 (by decide) ?_
        rw [remN7 (by omega)]
        refine g_ialdN X 7 (d % 7) (by omega) lS_a7 (by omega) (by decide) dX4_rest_127 ?_
        rw [rS_7]
        rw [show σ_18 13 (d % 7) = ρ 13 (d % 7) by subst_vars; rw [up2_k (by omega), up2_k (by omega), q13]]
        refine g_ineg X dX4_rest_128 ?_
        exact kj_19 _ ((by unfold par; rw [if_neg cD]))
      · skip
        have cD := c_20
        refine g_aload_n X dX4_rest_101 1 rfl rfl ?_
        refine g_getr X 0 (by omega) 9 (by decide) ku_X4 kv_X4 kf_X4_35 rfl lS_damp dX4_rest_102 ?_
        refine g_aload_n X dX4_rest_105 1 rfl rfl ?_
        refine g_geti X 0 (by omega) 0 (by decide) ku_X4 kv_X4 kf_X4_45 rfl lS_day dX4_rest_106 ?_
        rw [rS_day]
        rw [show σ_18 0 7 = nI d by subst_vars; rw [up2_k (by omega), up2_k (by omega), q0]; exact hd]
        refine g_bipush X (v := 7) dX4_rest_109 (by decide) ?_
        refine g_irem X dX4_rest_111 (by decide) ?_
        rw [remN7 (by omega)]
        refine g_ialdN X 7 (d % 7) (by omega) lS_a7 (by omega) (by decide) dX4_rest_112 ?_
        rw [rS_7]
        rw [show σ_18 13 (d % 7) = ρ 13 (d % 7) by subst_vars; rw [up2_k (by omega), up2_k (by omega), q13]]
        refine g_goto X 129 dX4_rest_113 (by decide) ?_
        exact kj_19 _ ((by unfold par; rw [if_pos cD]))
    refine g_iadd X dX4_rest_129 ?_
    refine g_iastN X 2 i (by omega) lS_a2 (by omega) (by decide) dX4_rest_130 (fun ρ_21 eρ_21 => ?_)
    obtain ⟨σ_22, sσ_22, rfl⟩ := wX eρ_21 wS_2
    refine g_aload_n X dX4_rest_131 1 rfl rfl ?_
    refine g_getr X 0 (by omega) 4 (by decide) ku_X4 kv_X4 kf_X4_17 rfl lS_off dX4_rest_132 ?_
    refine g_iload_n X dX4_rest_135 2 rfl rfl ?_
    refine g_join 174 (hdd (ρ 3 i + par (ρ 13 (d % 7)) i)) (fun kj_23 => ?_) ?_
    · skip
      refine g_aload_n X dX4_rest_136 1 rfl rfl ?_
      refine g_getr X 0 (by omega) 4 (by decide) ku_X4 kv_X4 kf_X4_17 rfl lS_off dX4_rest_137 ?_
      refine g_iload_n X dX4_rest_140 2 rfl rfl ?_
      refine g_ialdN X 2 i (by omega) lS_a2 (by omega) (by decide) dX4_rest_141 ?_
      rw [rS_2]
      rw [show σ_22 3 i = (ρ 3 i + par (ρ 13 (d % 7)) i) by subst_vars; rw [up2_s]]
      refine g_bipush X (v := 60) dX4_rest_142 (by decide) ?_
      refine g_icmp_le X 152 dX4_rest_144 (by decide) (fun c_24 => ?_) (fun c_24 => ?_)
      · skip
        have cE := c_24
        refine g_aload_n X dX4_rest_152 1 rfl rfl ?_
        refine g_getr X 0 (by omega) 4 (by decide) ku_X4 kv_X4 kf_X4_17 rfl lS_off dX4_rest_153 ?_
        refine g_iload_n X dX4_rest_156 2 rfl rfl ?_
        refine g_ialdN X 2 i (by omega) lS_a2 (by omega) (by decide) dX4_rest_157 ?_
        rw [rS_2]
        rw [show σ_22 3 i = (ρ 3 i + par (ρ 13 (d % 7)) i) by subst_vars; rw [up2_s]]
        refine g_bipush X (v := -60) dX4_rest_158 (by decide) ?_
        refine g_icmp_ge X 168 dX4_rest_160 (by decide) (fun c_25 => ?_) (fun c_25 => ?_)
        · skip
          have cF := c_25
          refine g_aload_n X dX4_rest_168 1 rfl rfl ?_
          refine g_getr X 0 (by omega) 4 (by decide) ku_X4 kv_X4 kf_X4_17 rfl lS_off dX4_rest_169 ?_
          refine g_iload_n X dX4_rest_172 2 rfl rfl ?_
          refine g_ialdN X 2 i (by omega) lS_a2 (by omega) (by decide) dX4_rest_173 ?_
          rw [rS_2]
          rw [show σ_22 3 i = (ρ 3 i + par (ρ 13 (d % 7)) i) by subst_vars; rw [up2_s]]
          exact kj_23 _ (hd_1 cE cF)
        · skip
          have cF := c_25
          refine g_bipush X (v := -60) dX4_rest_163 (by decide) ?_
          refine g_goto X 174 dX4_rest_165 (by decide) ?_
          exact kj_23 _ (hd_2 cE cF)
      · skip
        have cE := c_24
        refine g_bipush X (v := 60) dX4_rest_147 (by decide) ?_
        refine g_goto X 174 dX4_rest_149 (by decide) ?_
        exact kj_23 _ (hd_3 cE)
    refine g_iastN X 2 i (by omega) lS_a2 (by omega) (by decide) dX4_rest_174 (fun ρ_26 eρ_26 => ?_)
    obtain ⟨σ_27, sσ_27, rfl⟩ := wX eρ_26 wS_2
    refine g_iincN X i 2 [(2, .int _), (1, .int _), (0, .ref _)] 2 dX4_rest_175 rfl (by decide) rfl ?_
    refine g_goto X 4 dX4_rest_178 (by decide) ?_
    refine g_ls (ls' := [(0, .ref _), (1, .int _), (2, .int _)]) [2, 1, 0] rfl ?_
    exact g_eqv (ihi (by omega) trivial) (rfl) (by
            refine congrArg (sR S) ?_
            subst_vars
            funext k j
            simp only [up2_e, ntR]
            grind) rfl rfl

set_option maxHeartbeats 1000000 in
set_option maxRecDepth 100000 in
theorem c_X4_crickets (l : Launch) (D : va_G) (cy : Nat → ClassId) (ad : Nat → Nat) (ρ : Nat → Nat → Int32) (S T : Nat) (Ln : Nat → Nat)  : gMI l yX4_crickets cX4_crickets 6 (some .int) { frames := 0, cells := 0, slots := 0, locals := 0 } D cy (8 + S + T) ad (cS ad cy S T Ln) [.ref (ad 0)] (sR S ρ) (fun r ρ1 => r = crc ρ 1 ∧ ρ1 = sR S ρ) 0 0 := by
  refine gMI_of (ls := [(0, .ref (ad 0))]) RX4 rfl (by decide +kernel) (Nat.le_of_ble_eq_true rfl) rfl ?_
  intro p e s m args below meth c A X hr hlk hnm
  refine g_iconst X (v := 0) dX4_crickets_0 (by decide) ?_
  refine g_istore_n X [(1, .int _), (0, .ref _)] dX4_crickets_1 rfl (by decide) rfl ?_
  refine g_aload_n X dX4_crickets_2 1 rfl rfl ?_
  refine g_getr X 0 (by omega) 5 (by decide) ku_X4 kv_X4 kf_X4_20 rfl lS_chirps dX4_crickets_3 ?_
  refine g_astore_n X [(2, .ref _), (1, .int _), (0, .ref _)] dX4_crickets_6 rfl (by decide) rfl ?_
  refine g_aload_n X dX4_crickets_7 0 rfl rfl ?_
  refine g_alen (t0 := 1) X 3 (by omega) (gAI.ln lS_a3) rfl dX4_crickets_8 ?_
  refine g_istore_n X [(3, .int _), (2, .ref _), (1, .int _), (0, .ref _)] dX4_crickets_9 rfl (by decide) rfl ?_
  refine g_iconst X (v := 0) dX4_crickets_10 (by decide) ?_
  refine g_istore X [(4, .int _), (3, .int _), (2, .ref _), (1, .int _), (0, .ref _)] dX4_crickets_11 (by decide) rfl ?_
  refine g_ls (ls' := [(0, .ref _), (1, .int _), (2, .ref _), (3, .int _), (4, .int _)]) [4, 3, 2, 1, 0] rfl ?_
  refine g_loop (fun _ => True) (fun _ => sR S ρ) (fun i => [(0, .ref (ad 0)), (1, .int (sumI (fun j => b01 (ρ 4 j)) i)), (2, .ref (ad 3)), (3, .int (nI 12)), (4, .int (nI i))]) (fun _ => 0) (fun _ => 0) 12 0 trivial (by omega) rfl rfl rfl rfl (fun i h0i hi hIi ihi => ?_)
  refine g_iload X dX4_crickets_13 4 rfl ?_
  refine g_iload_n X dX4_crickets_15 3 rfl rfl ?_
  refine g_icmp_geN X i 12 44 (by omega) (by omega) dX4_crickets_16 (by decide) (fun c_1 => ?_) (fun c_1 => ?_)
  · skip
    refine g_iload_n X dX4_crickets_44 1 rfl rfl ?_
    exact g_iret X hr hlk (by omega) (by omega) dX4_crickets_45 (by rw [show i = 12 by omega]; exact ⟨rfl, rfl⟩)
  · skip
    refine g_aload_n X dX4_crickets_19 2 rfl rfl ?_
    refine g_iload X dX4_crickets_20 4 rfl ?_
    refine g_zaldN X 3 i (by omega) lS_a3 (by omega) (by decide) dX4_crickets_22 ?_
    rw [rS_3]
    refine g_istore X [(5, .int _), (0, .ref _), (1, .int _), (2, .ref _), (3, .int _), (4, .int _)] dX4_crickets_23 (by decide) rfl ?_
    refine g_iload_n X dX4_crickets_25 2 rfl rfl ?_
    refine g_join 36 (b01 (ρ 4 i)) (fun kj_2 => ?_) ?_
    · skip
      refine g_iload X dX4_crickets_26 0 rfl ?_
      refine g_if_eq X 35 dX4_crickets_28 (by decide) (fun c_3 => ?_) (fun c_3 => ?_)
      · skip
        have cJ := c_3
        refine g_iconst X (v := 0) dX4_crickets_35 (by decide) ?_
        exact kj_2 _ ((b01_eq cJ).symm)
      · skip
        have cJ := c_3
        refine g_iconst X (v := 1) dX4_crickets_31 (by decide) ?_
        refine g_goto X 36 dX4_crickets_32 (by decide) ?_
        exact kj_2 _ ((b01_ne cJ).symm)
    refine g_iadd X dX4_crickets_36 ?_
    refine g_istore_n X [(1, .int _), (5, .int _), (0, .ref _), (2, .ref _), (3, .int _), (4, .int _)] dX4_crickets_37 rfl (by decide) rfl ?_
    refine g_iincN X i 4 [(4, .int _), (1, .int _), (5, .int _), (0, .ref _), (2, .ref _), (3, .int _)] 5 dX4_crickets_38 rfl (by decide) rfl ?_
    refine g_goto X 13 dX4_crickets_41 (by decide) ?_
    refine g_ls (ls' := [(0, .ref _), (1, .int _), (2, .ref _), (3, .int _), (4, .int _)]) [3, 1, 4, 5, 0] rfl ?_
    exact g_eqv (ihi (by omega) trivial) (rfl) (rfl) rfl rfl

set_option maxHeartbeats 1000000 in
set_option maxRecDepth 100000 in
theorem c_X4_sum_w (l : Launch) (D : va_G) (cy : Nat → ClassId) (ad : Nat → Nat) (ρ : Nat → Nat → Int32) (S T : Nat) (Ln : Nat → Nat)  : gMI l yX4_sum cX4_sum 7 (some .int) { frames := 0, cells := 0, slots := 0, locals := 0 } D cy (8 + S + T) ad (cS ad cy S T Ln) [.ref (ad 0), .ref (ad 1)] (sR S ρ) (fun r ρ1 => r = abs12 ρ 2 ∧ ρ1 = sR S ρ) 0 0 := by
  refine gMI_of (ls := [(0, .ref (ad 0)), (1, .ref (ad 1))]) RX4 rfl (by decide +kernel) (Nat.le_of_ble_eq_true rfl) rfl ?_
  intro p e s m args below meth c A X hr hlk hnm
  refine g_iconst X (v := 0) dX4_sum_0 (by decide) ?_
  refine g_istore_n X [(2, .int _), (0, .ref _), (1, .ref _)] dX4_sum_1 rfl (by decide) rfl ?_
  refine g_aload_n X dX4_sum_2 2 rfl rfl ?_
  refine g_astore_n X [(3, .ref _), (2, .int _), (0, .ref _), (1, .ref _)] dX4_sum_3 rfl (by decide) rfl ?_
  refine g_aload_n X dX4_sum_4 0 rfl rfl ?_
  refine g_alen (t0 := 0) X 1 (by omega) (gAI.ln lS_a1) rfl dX4_sum_5 ?_
  refine g_istore X [(4, .int _), (3, .ref _), (2, .int _), (0, .ref _), (1, .ref _)] dX4_sum_6 (by decide) rfl ?_
  refine g_iconst X (v := 0) dX4_sum_8 (by decide) ?_
  refine g_istore X [(5, .int _), (4, .int _), (3, .ref _), (2, .int _), (0, .ref _), (1, .ref _)] dX4_sum_9 (by decide) rfl ?_
  refine g_ls (ls' := [(0, .ref _), (1, .ref _), (2, .int _), (3, .ref _), (4, .int _), (5, .int _)]) [4, 5, 3, 2, 1, 0] rfl ?_
  refine g_loop (fun _ => True) (fun _ => sR S ρ) (fun i => [(0, .ref (ad 0)), (1, .ref (ad 1)), (2, .int (sumI (fun j => ab (ρ 2 j)) i)), (3, .ref (ad 1)), (4, .int (nI 12)), (5, .int (nI i))]) (fun _ => 0) (fun _ => 0) 12 0 trivial (by omega) rfl rfl rfl rfl (fun i h0i hi hIi ihi => ?_)
  refine g_iload X dX4_sum_11 5 rfl ?_
  refine g_iload X dX4_sum_13 4 rfl ?_
  refine g_icmp_geN X i 12 46 (by omega) (by omega) dX4_sum_15 (by decide) (fun c_1 => ?_) (fun c_1 => ?_)
  · skip
    refine g_iload_n X dX4_sum_46 2 rfl rfl ?_
    exact g_iret X hr hlk (by omega) (by omega) dX4_sum_47 (by rw [show i = 12 by omega]; exact ⟨rfl, rfl⟩)
  · skip
    refine g_aload_n X dX4_sum_18 3 rfl rfl ?_
    refine g_iload X dX4_sum_19 5 rfl ?_
    refine g_ialdN X 1 i (by omega) lS_a1 (by omega) (by decide) dX4_sum_21 ?_
    rw [rS_1]
    refine g_istore X [(6, .int _), (0, .ref _), (1, .ref _), (2, .int _), (3, .ref _), (4, .int _), (5, .int _)] dX4_sum_22 (by decide) rfl ?_
    refine g_iload_n X dX4_sum_24 3 rfl rfl ?_
    refine g_join 38 (ab (ρ 2 i)) (fun kj_2 => ?_) ?_
    · skip
      refine g_iload X dX4_sum_25 0 rfl ?_
      refine g_if_ge X 36 dX4_sum_27 (by decide) (fun c_3 => ?_) (fun c_3 => ?_)
      · skip
        have cJ := c_3
        refine g_iload X dX4_sum_36 0 rfl ?_
        exact kj_2 _ ((ab_ge cJ).symm)
      · skip
        have cJ := c_3
        refine g_iload X dX4_sum_30 0 rfl ?_
        refine g_ineg X dX4_sum_32 ?_
        refine g_goto X 38 dX4_sum_33 (by decide) ?_
        exact kj_2 _ ((ab_lt cJ).symm)
    refine g_iadd X dX4_sum_38 ?_
    refine g_istore_n X [(2, .int _), (6, .int _), (0, .ref _), (1, .ref _), (3, .ref _), (4, .int _), (5, .int _)] dX4_sum_39 rfl (by decide) rfl ?_
    refine g_iincN X i 5 [(5, .int _), (2, .int _), (6, .int _), (0, .ref _), (1, .ref _), (3, .ref _), (4, .int _)] 6 dX4_sum_40 rfl (by decide) rfl ?_
    refine g_goto X 11 dX4_sum_43 (by decide) ?_
    refine g_ls (ls' := [(0, .ref _), (1, .ref _), (2, .int _), (3, .ref _), (4, .int _), (5, .int _)]) [3, 4, 1, 5, 6, 0] rfl ?_
    exact g_eqv (ihi (by omega) trivial) (rfl) (rfl) rfl rfl

set_option maxHeartbeats 1000000 in
set_option maxRecDepth 100000 in
theorem c_X4_sum_o (l : Launch) (D : va_G) (cy : Nat → ClassId) (ad : Nat → Nat) (ρ : Nat → Nat → Int32) (S T : Nat) (Ln : Nat → Nat)  : gMI l yX4_sum cX4_sum 7 (some .int) { frames := 0, cells := 0, slots := 0, locals := 0 } D cy (8 + S + T) ad (cS ad cy S T Ln) [.ref (ad 0), .ref (ad 2)] (sR S ρ) (fun r ρ1 => r = abs12 ρ 3 ∧ ρ1 = sR S ρ) 0 0 := by
  refine gMI_of (ls := [(0, .ref (ad 0)), (1, .ref (ad 2))]) RX4 rfl (by decide +kernel) (Nat.le_of_ble_eq_true rfl) rfl ?_
  intro p e s m args below meth c A X hr hlk hnm
  refine g_iconst X (v := 0) dX4_sum_0 (by decide) ?_
  refine g_istore_n X [(2, .int _), (0, .ref _), (1, .ref _)] dX4_sum_1 rfl (by decide) rfl ?_
  refine g_aload_n X dX4_sum_2 2 rfl rfl ?_
  refine g_astore_n X [(3, .ref _), (2, .int _), (0, .ref _), (1, .ref _)] dX4_sum_3 rfl (by decide) rfl ?_
  refine g_aload_n X dX4_sum_4 0 rfl rfl ?_
  refine g_alen (t0 := 0) X 2 (by omega) (gAI.ln lS_a2) rfl dX4_sum_5 ?_
  refine g_istore X [(4, .int _), (3, .ref _), (2, .int _), (0, .ref _), (1, .ref _)] dX4_sum_6 (by decide) rfl ?_
  refine g_iconst X (v := 0) dX4_sum_8 (by decide) ?_
  refine g_istore X [(5, .int _), (4, .int _), (3, .ref _), (2, .int _), (0, .ref _), (1, .ref _)] dX4_sum_9 (by decide) rfl ?_
  refine g_ls (ls' := [(0, .ref _), (1, .ref _), (2, .int _), (3, .ref _), (4, .int _), (5, .int _)]) [4, 5, 3, 2, 1, 0] rfl ?_
  refine g_loop (fun _ => True) (fun _ => sR S ρ) (fun i => [(0, .ref (ad 0)), (1, .ref (ad 2)), (2, .int (sumI (fun j => ab (ρ 3 j)) i)), (3, .ref (ad 2)), (4, .int (nI 12)), (5, .int (nI i))]) (fun _ => 0) (fun _ => 0) 12 0 trivial (by omega) rfl rfl rfl rfl (fun i h0i hi hIi ihi => ?_)
  refine g_iload X dX4_sum_11 5 rfl ?_
  refine g_iload X dX4_sum_13 4 rfl ?_
  refine g_icmp_geN X i 12 46 (by omega) (by omega) dX4_sum_15 (by decide) (fun c_1 => ?_) (fun c_1 => ?_)
  · skip
    refine g_iload_n X dX4_sum_46 2 rfl rfl ?_
    exact g_iret X hr hlk (by omega) (by omega) dX4_sum_47 (by rw [show i = 12 by omega]; exact ⟨rfl, rfl⟩)
  · skip
    refine g_aload_n X dX4_sum_18 3 rfl rfl ?_
    refine g_iload X dX4_sum_19 5 rfl ?_
    refine g_ialdN X 2 i (by omega) lS_a2 (by omega) (by decide) dX4_sum_21 ?_
    rw [rS_2]
    refine g_istore X [(6, .int _), (0, .ref _), (1, .ref _), (2, .int _), (3, .ref _), (4, .int _), (5, .int _)] dX4_sum_22 (by decide) rfl ?_
    refine g_iload_n X dX4_sum_24 3 rfl rfl ?_
    refine g_join 38 (ab (ρ 3 i)) (fun kj_2 => ?_) ?_
    · skip
      refine g_iload X dX4_sum_25 0 rfl ?_
      refine g_if_ge X 36 dX4_sum_27 (by decide) (fun c_3 => ?_) (fun c_3 => ?_)
      · skip
        have cJ := c_3
        refine g_iload X dX4_sum_36 0 rfl ?_
        exact kj_2 _ ((ab_ge cJ).symm)
      · skip
        have cJ := c_3
        refine g_iload X dX4_sum_30 0 rfl ?_
        refine g_ineg X dX4_sum_32 ?_
        refine g_goto X 38 dX4_sum_33 (by decide) ?_
        exact kj_2 _ ((ab_lt cJ).symm)
    refine g_iadd X dX4_sum_38 ?_
    refine g_istore_n X [(2, .int _), (6, .int _), (0, .ref _), (1, .ref _), (3, .ref _), (4, .int _), (5, .int _)] dX4_sum_39 rfl (by decide) rfl ?_
    refine g_iincN X i 5 [(5, .int _), (2, .int _), (6, .int _), (0, .ref _), (1, .ref _), (3, .ref _), (4, .int _)] 6 dX4_sum_40 rfl (by decide) rfl ?_
    refine g_goto X 11 dX4_sum_43 (by decide) ?_
    refine g_ls (ls' := [(0, .ref _), (1, .ref _), (2, .int _), (3, .ref _), (4, .int _), (5, .int _)]) [3, 4, 1, 5, 6, 0] rfl ?_
    exact g_eqv (ihi (by omega) trivial) (rfl) (rfl) rfl rfl

