set_option maxHeartbeats 1000000 in
set_option maxRecDepth 100000 in
theorem c_J7_fill_53178 (l : Launch) (D : va_G) (cy : Nat → ClassId) (ad : Nat → Nat) (ρ : Nat → Nat → Int32) (th a : Int32)  : gMV l yJ7_fill_53178 cJ7_fill_53178 4 none { frames := 0, cells := 0, slots := 0, locals := 0 } D cy 18 ad (cM ad cy) [.ref (ad 6), .int 0] (rM ρ th a) (fun μ1 => μ1 = rM (fgA ρ 8) th a) 0 0 := by
  refine gMV_of (ls := [(0, .ref (ad 6)), (1, .int 0)]) RJ7 rfl (by decide +kernel) (Nat.le_of_ble_eq_true rfl) rfl ?_
  intro p e s m args below meth c A X hr hlk hnm
  refine g_iconst X (v := 0) dJ7_fill_53178_0 (by decide) ?_
  refine g_istore_n X [(2, .int _), (0, .ref _), (1, .int _)] dJ7_fill_53178_1 rfl (by decide) rfl ?_
  refine g_aload_n X dJ7_fill_53178_2 1 rfl rfl ?_
  refine g_alen X 6 0 (by omega) lM_played rfl dJ7_fill_53178_3 ?_
  refine g_istore_n X [(3, .int _), (2, .int _), (0, .ref _), (1, .int _)] dJ7_fill_53178_4 rfl (by decide) rfl ?_
  refine g_ls (ls' := [(0, .ref _), (1, .int _), (2, .int _), (3, .int _)]) [2, 3, 1, 0] rfl ?_
  refine g_loop (fun _ => True) (fun i => rM (fpR ρ i) th a) (fun i => [(0, .ref (ad 6)), (1, .int 0), (2, .int (nI i)), (3, .int (nI 48))]) (fun _ => 0) (fun _ => 0) 48 0 trivial (by omega) rfl (by rw [fpR_0]) rfl rfl (fun i h0i hi hIi ihi => ?_)
  obtain ⟨ρa, eρa⟩ : ∃ ρz, ρz = fpR ρ i := ⟨_, rfl⟩
  rw [← eρa]
  refine g_iload_n X dJ7_fill_53178_5 2 rfl rfl ?_
  refine g_iload_n X dJ7_fill_53178_6 3 rfl rfl ?_
  refine g_icmp_geN X i 48 20 (by omega) (by omega) dJ7_fill_53178_7 (by decide) (fun c_1 => ?_) (fun c_1 => ?_)
  · skip
    exact g_vret X hr hlk (by omega) (by omega) dJ7_fill_53178_20 (by subst_vars; rw [show i = 48 by omega, fpR_8])
  · skip
    refine g_aload_n X dJ7_fill_53178_10 0 rfl rfl ?_
    refine g_iload_n X dJ7_fill_53178_11 2 rfl rfl ?_
    refine g_iload_n X dJ7_fill_53178_12 1 rfl rfl ?_
    refine g_iastN X 6 i (by omega) lM_played (by omega) (by decide) dJ7_fill_53178_13 (fun ρ_2 eρ_2 => ?_)
    refine g_iincN X i 2 [(2, .int _), (0, .ref _), (1, .int _), (3, .int _)] 2 dJ7_fill_53178_14 rfl (by decide) rfl ?_
    refine g_goto X 5 dJ7_fill_53178_17 (by decide) ?_
    refine g_ls (ls' := [(0, .ref _), (1, .int _), (2, .int _), (3, .int _)]) [1, 2, 0, 3] rfl ?_
    exact g_eqv (ihi (by omega) trivial) (rfl) (by subst_vars; rw [← fpR_s (by omega), ← wM_ply (show i / 6 < 8 by omega) (show i % 6 < 6 by omega), show 6 * (i / 6) + i % 6 = i by omega]) rfl rfl

set_option maxHeartbeats 1000000 in
set_option maxRecDepth 100000 in
theorem c_X5_barrel (l : Launch) (D : va_G) (cy : Nat → ClassId) (ad : Nat → Nat) (ρ : Nat → Nat → Int32) (th a : Int32) (N T S d : Nat) (hI : Inv ρ N T S d) : gMI l yX5_barrel cX5_barrel 1 (some .int) { frames := 1, cells := 0, slots := 0, locals := 21 } D cy 18 ad (cM ad cy) [.ref (ad 0)] (rM ρ th a) (fun r μ1 => ∃ a9 : Int32, μ1 = rM (barF ρ).2.2 (nI (barF ρ).1) a9 ∧ ((barF ρ).1 = 0 → r = (barF ρ).2.1)) 0 0 := by
  refine gMI_of (ls := [(0, .ref (ad 0))]) RX5 rfl (by decide +kernel) (Nat.le_of_ble_eq_true rfl) rfl ?_
  intro p e s m args below meth c A X hr hlk hnm
  obtain ⟨hT, hT6, hS, hS8, hd, hdN, hN, hTu, hSt, hPi, hZ, hHd⟩ := id hI
  have hwd : wdF ρ = nI (d % 7) := by unfold wdF; rw [hd, nI_clamp (by omega)]
  refine g_aload_n X dX5_barrel_0 0 rfl rfl ?_
  refine g_iconst X (v := 0) dX5_barrel_1 (by decide) ?_
  refine g_puti X 0 (by omega) 0 (by decide) ku_X5 kv_X5 kf_X5_45 rfl tyX5 tyX5_ok nmX5 rfl (by decide +kernel) lM_o_thrown dX5_barrel_2 (fun ρ_1 eρ_1 => ?_)
  rw [eρ_1, wM_thr]
  refine g_aload_n X dX5_barrel_5 0 rfl rfl ?_
  refine g_geti X 0 (by omega) 1 (by decide) ku_X5 kv_X5 kf_X5_57 rfl lM_o_tunes dX5_barrel_6 ?_
  rw [rM_tun, hT]
  refine g_bipush X (v := 6) dX5_barrel_9 (by decide) ?_
  refine g_icmp_neN X T 6 20 (by omega) (by omega) dX5_barrel_11 (by decide) (fun c_2 => ?_) (fun c_2 => ?_)
  · skip
    refine g_aload_n X dX5_barrel_20 0 rfl rfl ?_
    refine g_dup X dX5_barrel_21 rfl ?_
    refine g_geti X 0 (by omega) 1 (by decide) ku_X5 kv_X5 kf_X5_57 rfl lM_o_tunes dX5_barrel_22 ?_
    rw [rM_tun, hT]
    refine g_iconst X (v := 1) dX5_barrel_25 (by decide) ?_
    refine g_iadd X dX5_barrel_26 ?_
    refine g_puti X 0 (by omega) 1 (by decide) ku_X5 kv_X5 kf_X5_57 rfl tyX5 tyX5_ok nmX5 rfl (by decide +kernel) lM_o_tunes dX5_barrel_27 (fun ρ_3 eρ_3 => ?_)
    rw [eρ_3, wM_tun]
    refine g_aload_n X dX5_barrel_30 0 rfl rfl ?_
    refine g_geti X 0 (by omega) 1 (by decide) ku_X5 kv_X5 kf_X5_57 rfl lM_o_tunes dX5_barrel_31 ?_
    rw [rM_tun]
    rw [up2_s]
    refine g_iconst X (v := 1) dX5_barrel_34 (by decide) ?_
    refine g_isub X dX5_barrel_35 ?_
    exact g_iret X hr hlk (by omega) (by omega) dX5_barrel_36 (by have hF : barF ρ = (0, nI T, up2 ρ 0 5 (nI T + 1)) := (by unfold barF; rw [if_neg (by rw [hT]; exact nI_ne (a := T) (b := 6) (by omega) (by omega) (by omega)), hT]); rw [hF]; exact ⟨_, rfl, fun _ => Int32.add_sub_cancel _ _⟩)
  · skip
    refine g_aload_n X dX5_barrel_14 0 rfl rfl ?_
    refine g_iconst X (v := 1) dX5_barrel_15 (by decide) ?_
    refine g_mcallVi X 0 (c_X5_no l D cy ad _ _ _ _) kl_X5_67 ⟨rfl, rfl, Nat.le_of_ble_eq_true rfl, Nat.le_of_ble_eq_true rfl⟩ (by omega) lM_O kv_X5 rfl rfl (Nat.le_of_ble_eq_true rfl) dX5_barrel_16 ⟨Nat.le_of_ble_eq_true rfl, Nat.le_of_ble_eq_true rfl⟩ (fun r_5 ρ_4 h_6 => ?_)
    obtain ⟨er_5, e9⟩ := h_6
    rw [e9, er_5]
    exact g_iret X hr hlk (by omega) (by omega) dX5_barrel_19 (by have hF : barF ρ = (1, 0, ρ) := (by unfold barF; rw [if_pos (by rw [hT, show T = 6 by omega]; rfl)]); rw [hF]; exact ⟨_, rfl, fun _ => rfl⟩)

set_option maxHeartbeats 1000000 in
set_option maxRecDepth 100000 in
theorem c_X5_pin (l : Launch) (D : va_G) (cy : Nat → ClassId) (ad : Nat → Nat) (ρ : Nat → Nat → Int32) (th a : Int32) (N T S d : Nat) (hI : Inv ρ N T S d) (x y : Int32) : gMI l yX5_pin cX5_pin 3 (some .int) { frames := 2, cells := 0, slots := 0, locals := 43 } D cy 18 ad (cM ad cy) [.ref (ad 0), .int x, .int y] (rM ρ th a) (fun r μ1 => ∃ a9 : Int32, μ1 = rM (pinF ρ x y).2.2 (nI (pinF ρ x y).1) a9 ∧ ((pinF ρ x y).1 = 0 → r = (pinF ρ x y).2.1)) 0 0 := by
  refine gMI_of (ls := [(0, .ref (ad 0)), (1, .int x), (2, .int y)]) RX5 rfl (by decide +kernel) (Nat.le_of_ble_eq_true rfl) rfl ?_
  intro p e s m args below meth c A X hr hlk hnm
  obtain ⟨hT, hT6, hS, hS8, hd, hdN, hN, hTu, hSt, hPi, hZ, hHd⟩ := id hI
  have hwd : wdF ρ = nI (d % 7) := by unfold wdF; rw [hd, nI_clamp (by omega)]
  refine g_aload_n X dX5_pin_0 0 rfl rfl ?_
  refine g_iconst X (v := 0) dX5_pin_1 (by decide) ?_
  refine g_puti X 0 (by omega) 0 (by decide) ku_X5 kv_X5 kf_X5_45 rfl tyX5 tyX5_ok nmX5 rfl (by decide +kernel) lM_o_thrown dX5_pin_2 (fun ρ_1 eρ_1 => ?_)
  rw [eρ_1, wM_thr]
  refine g_aload_n X dX5_pin_5 0 rfl rfl ?_
  refine g_iload_n X dX5_pin_6 1 rfl rfl ?_
  refine g_mcallVi X 0 (c_X5_isTune l D cy ad _ _ _ _ T hT (by omega)) kl_X5_71 ⟨rfl, rfl, Nat.le_of_ble_eq_true rfl, Nat.le_of_ble_eq_true rfl⟩ (by omega) lM_O kv_X5 rfl rfl (Nat.le_of_ble_eq_true rfl) dX5_pin_7 ⟨Nat.le_of_ble_eq_true rfl, Nat.le_of_ble_eq_true rfl⟩ (fun r_3 ρ_2 h_4 => ?_)
  obtain ⟨er_3, e9⟩ := h_4
  rw [e9, er_3]
  clear e9
  refine g_if_eq X 20 dX5_pin_10 (by decide) (fun c_5 => ?_) (fun c_5 => ?_)
  · skip
    have nb := b10_f c_5
    refine g_aload_n X dX5_pin_20 0 rfl rfl ?_
    refine g_iconst X (v := 1) dX5_pin_21 (by decide) ?_
    refine g_mcallVi X 0 (c_X5_no l D cy ad _ _ _ _) kl_X5_67 ⟨rfl, rfl, Nat.le_of_ble_eq_true rfl, Nat.le_of_ble_eq_true rfl⟩ (by omega) lM_O kv_X5 rfl rfl (Nat.le_of_ble_eq_true rfl) dX5_pin_22 ⟨Nat.le_of_ble_eq_true rfl, Nat.le_of_ble_eq_true rfl⟩ (fun r_7 ρ_6 h_8 => ?_)
    obtain ⟨er_7, e9⟩ := h_8
    rw [e9, er_7]
    exact g_iret X hr hlk (by omega) (by omega) dX5_pin_25 (by have hF : pinF ρ x y = (1, 0, ρ) := (by unfold pinF; rw [if_neg nb]); rw [hF]; exact ⟨_, rfl, fun _ => rfl⟩)
  · skip
    have ibt := b10_t c_5
    obtain ⟨t, ht, rfl⟩ := inb_N hT (by omega) ibt
    have ext : ix (nI t) = t := nI_clamp (by omega)
    refine g_iload_n X dX5_pin_13 2 rfl rfl ?_
    refine g_mcallSi X (c_X5_isPipe l D cy ad _ _ _ _) kl_X5_75 ⟨rfl, rfl, Nat.le_of_ble_eq_true rfl, Nat.le_of_ble_eq_true rfl⟩ rfl rfl (Nat.le_of_ble_eq_true rfl) dX5_pin_14 ⟨Nat.le_of_ble_eq_true rfl, Nat.le_of_ble_eq_true rfl⟩ (fun r_10 ρ_9 h_11 => ?_)
    obtain ⟨er_10, e9⟩ := h_11
    rw [e9, er_10]
    clear e9
    refine g_if_ne X 26 dX5_pin_17 (by decide) (fun c_12 => ?_) (fun c_12 => ?_)
    · skip
      have ibq := b10_t c_12
      obtain ⟨q, hq, rfl⟩ := inb_N (T := 12) rfl (by omega) ibq
      have exq : ix (nI q) = q := nI_clamp (by omega)
      obtain ⟨L, hL, hL16, hLn, hLc⟩ := hTu t (by omega)
      refine g_aload_n X dX5_pin_26 0 rfl rfl ?_
      refine g_getr X 0 (by omega) 2 (by decide) ku_X5 kv_X5 kf_X5_9 rfl lM_o_many dX5_pin_27 ?_
      refine g_iload_n X dX5_pin_30 1 rfl rfl ?_
      refine g_ialdN X 1 t (by omega) lM_many (by omega) (by decide) dX5_pin_31 ?_
      rw [rM_many (by omega)]
      rw [hL]
      refine g_bipush X (v := 16) dX5_pin_32 (by decide) ?_
      refine g_icmp_neN X L 16 43 (by omega) (by omega) dX5_pin_34 (by decide) (fun c_13 => ?_) (fun c_13 => ?_)
      · skip
        refine g_aload_n X dX5_pin_43 0 rfl rfl ?_
        refine g_getr X 0 (by omega) 3 (by decide) ku_X5 kv_X5 kf_X5_13 rfl lM_o_notes dX5_pin_44 ?_
        refine g_bipush X (v := 16) dX5_pin_47 (by decide) ?_
        refine g_iload_n X dX5_pin_49 1 rfl rfl ?_
        refine g_imul X dX5_pin_50 ?_
        rw [show (16 : Int32) * nI t = nI (16 * t) from mulN 16 t]
        refine g_aload_n X dX5_pin_51 0 rfl rfl ?_
        refine g_getr X 0 (by omega) 2 (by decide) ku_X5 kv_X5 kf_X5_9 rfl lM_o_many dX5_pin_52 ?_
        refine g_iload_n X dX5_pin_55 1 rfl rfl ?_
        refine g_ialdN X 1 t (by omega) lM_many (by omega) (by decide) dX5_pin_56 ?_
        rw [rM_many (by omega)]
        rw [hL]
        refine g_iadd X dX5_pin_57 ?_
        rw [nI_add]
        refine g_iload_n X dX5_pin_58 2 rfl rfl ?_
        refine g_iastN X 2 (16 * t + L) (by omega) lM_notes (by omega) (by decide) dX5_pin_59 (fun ρ_14 eρ_14 => ?_)
        rw [eρ_14, wM_notes (by omega) (by omega)]
        refine g_aload_n X dX5_pin_60 0 rfl rfl ?_
        refine g_getr X 0 (by omega) 2 (by decide) ku_X5 kv_X5 kf_X5_9 rfl lM_o_many dX5_pin_61 ?_
        refine g_iload_n X dX5_pin_64 1 rfl rfl ?_
        refine g_dup2 X dX5_pin_65 rfl rfl ?_
        refine g_ialdN X 1 t (by omega) lM_many (by omega) (by decide) dX5_pin_66 ?_
        rw [rM_many (by omega)]
        rw [up2_k (by omega), hL]
        refine g_iconst X (v := 1) dX5_pin_67 (by decide) ?_
        refine g_iadd X dX5_pin_68 ?_
        refine g_iastN X 1 t (by omega) lM_many (by omega) (by decide) dX5_pin_69 (fun ρ_15 eρ_15 => ?_)
        rw [eρ_15, wM_many (by omega)]
        refine g_aload_n X dX5_pin_70 0 rfl rfl ?_
        refine g_getr X 0 (by omega) 2 (by decide) ku_X5 kv_X5 kf_X5_9 rfl lM_o_many dX5_pin_71 ?_
        refine g_iload_n X dX5_pin_74 1 rfl rfl ?_
        refine g_ialdN X 1 t (by omega) lM_many (by omega) (by decide) dX5_pin_75 ?_
        rw [rM_many (by omega)]
        rw [up2_s]
        exact g_iret X hr hlk (by omega) (by omega) dX5_pin_76 (by have hF : pinF ρ (nI t) (nI q) = (0, nI L + 1, up2 (up2 (up2 ρ (15 + 3 * t) L (nI q)) (16 + 3 * t) q (ρ (16 + 3 * t) q + 1)) (14 + 3 * t) 2 (nI L + 1)) := (by unfold pinF; rw [if_pos ibt, if_pos ibq, if_neg (by rw [ext, hL]; exact nI_ne (a := L) (b := 16) (by omega) (by omega) (by omega)), ext, exq, hL, show ix (nI L) = L from nI_clamp (by omega)]); rw [hF]; exact ⟨_, (wM_times2 (by omega)).symm, fun _ => rfl⟩)
      · skip
        refine g_aload_n X dX5_pin_37 0 rfl rfl ?_
        refine g_iconst X (v := 2) dX5_pin_38 (by decide) ?_
        refine g_mcallVi X 0 (c_X5_no l D cy ad _ _ _ _) kl_X5_67 ⟨rfl, rfl, Nat.le_of_ble_eq_true rfl, Nat.le_of_ble_eq_true rfl⟩ (by omega) lM_O kv_X5 rfl rfl (Nat.le_of_ble_eq_true rfl) dX5_pin_39 ⟨Nat.le_of_ble_eq_true rfl, Nat.le_of_ble_eq_true rfl⟩ (fun r_17 ρ_16 h_18 => ?_)
        obtain ⟨er_17, e9⟩ := h_18
        rw [e9, er_17]
        exact g_iret X hr hlk (by omega) (by omega) dX5_pin_42 (by have hF : pinF ρ (nI t) (nI q) = (2, 0, ρ) := (by unfold pinF; rw [if_pos ibt, if_pos ibq, if_pos (by rw [ext, hL, show L = 16 by omega]; rfl)]); rw [hF]; exact ⟨_, rfl, fun _ => rfl⟩)
    · skip
      have nb := b10_f c_12
      refine g_aload_n X dX5_pin_20 0 rfl rfl ?_
      refine g_iconst X (v := 1) dX5_pin_21 (by decide) ?_
      refine g_mcallVi X 0 (c_X5_no l D cy ad _ _ _ _) kl_X5_67 ⟨rfl, rfl, Nat.le_of_ble_eq_true rfl, Nat.le_of_ble_eq_true rfl⟩ (by omega) lM_O kv_X5 rfl rfl (Nat.le_of_ble_eq_true rfl) dX5_pin_22 ⟨Nat.le_of_ble_eq_true rfl, Nat.le_of_ble_eq_true rfl⟩ (fun r_20 ρ_19 h_21 => ?_)
      obtain ⟨er_20, e9⟩ := h_21
      rw [e9, er_20]
      exact g_iret X hr hlk (by omega) (by omega) dX5_pin_25 (by have hF : pinF ρ (nI t) y = (1, 0, ρ) := (by unfold pinF; rw [if_pos ibt, if_neg nb]); rw [hF]; exact ⟨_, rfl, fun _ => rfl⟩)

set_option maxHeartbeats 1000000 in
set_option maxRecDepth 100000 in
theorem c_X5_note (l : Launch) (D : va_G) (cy : Nat → ClassId) (ad : Nat → Nat) (ρ : Nat → Nat → Int32) (th a : Int32) (N T S d : Nat) (hI : Inv ρ N T S d) (x y : Int32) : gMI l yX5_note cX5_note 3 (some .int) { frames := 2, cells := 0, slots := 0, locals := 43 } D cy 18 ad (cM ad cy) [.ref (ad 0), .int x, .int y] (rM ρ th a) (fun r μ1 => ∃ a9 : Int32, μ1 = rM (notF ρ x y).2.2 (nI (notF ρ x y).1) a9 ∧ ((notF ρ x y).1 = 0 → r = (notF ρ x y).2.1)) 0 0 := by
  refine gMI_of (ls := [(0, .ref (ad 0)), (1, .int x), (2, .int y)]) RX5 rfl (by decide +kernel) (Nat.le_of_ble_eq_true rfl) rfl ?_
  intro p e s m args below meth c A X hr hlk hnm
  obtain ⟨hT, hT6, hS, hS8, hd, hdN, hN, hTu, hSt, hPi, hZ, hHd⟩ := id hI
  have hwd : wdF ρ = nI (d % 7) := by unfold wdF; rw [hd, nI_clamp (by omega)]
  refine g_aload_n X dX5_note_0 0 rfl rfl ?_
  refine g_iconst X (v := 0) dX5_note_1 (by decide) ?_
  refine g_puti X 0 (by omega) 0 (by decide) ku_X5 kv_X5 kf_X5_45 rfl tyX5 tyX5_ok nmX5 rfl (by decide +kernel) lM_o_thrown dX5_note_2 (fun ρ_1 eρ_1 => ?_)
  rw [eρ_1, wM_thr]
  refine g_aload_n X dX5_note_5 0 rfl rfl ?_
  refine g_iload_n X dX5_note_6 1 rfl rfl ?_
  refine g_mcallVi X 0 (c_X5_isTune l D cy ad _ _ _ _ T hT (by omega)) kl_X5_71 ⟨rfl, rfl, Nat.le_of_ble_eq_true rfl, Nat.le_of_ble_eq_true rfl⟩ (by omega) lM_O kv_X5 rfl rfl (Nat.le_of_ble_eq_true rfl) dX5_note_7 ⟨Nat.le_of_ble_eq_true rfl, Nat.le_of_ble_eq_true rfl⟩ (fun r_3 ρ_2 h_4 => ?_)
  obtain ⟨er_3, e9⟩ := h_4
  rw [e9, er_3]
  clear e9
  refine g_if_eq X 43 dX5_note_10 (by decide) (fun c_5 => ?_) (fun c_5 => ?_)
  · skip
    have nb := b10_f c_5
    refine g_aload_n X dX5_note_43 0 rfl rfl ?_
    refine g_iconst X (v := 1) dX5_note_44 (by decide) ?_
    refine g_mcallVi X 0 (c_X5_no l D cy ad _ _ _ _) kl_X5_67 ⟨rfl, rfl, Nat.le_of_ble_eq_true rfl, Nat.le_of_ble_eq_true rfl⟩ (by omega) lM_O kv_X5 rfl rfl (Nat.le_of_ble_eq_true rfl) dX5_note_45 ⟨Nat.le_of_ble_eq_true rfl, Nat.le_of_ble_eq_true rfl⟩ (fun r_7 ρ_6 h_8 => ?_)
    obtain ⟨er_7, e9⟩ := h_8
    rw [e9, er_7]
    exact g_iret X hr hlk (by omega) (by omega) dX5_note_48 (by have hF : notF ρ x y = (1, 0, ρ) := (by unfold notF; rw [if_neg nb]); rw [hF]; exact ⟨_, rfl, fun _ => rfl⟩)
  · skip
    have ibt := b10_t c_5
    obtain ⟨t, ht, rfl⟩ := inb_N hT (by omega) ibt
    have ext : ix (nI t) = t := nI_clamp (by omega)
    obtain ⟨L, hL, hL16, hLn, hLc⟩ := hTu t (by omega)
    refine g_iload_n X dX5_note_13 2 rfl rfl ?_
    refine g_iconst X (v := 0) dX5_note_14 (by decide) ?_
    refine g_aload_n X dX5_note_15 0 rfl rfl ?_
    refine g_getr X 0 (by omega) 2 (by decide) ku_X5 kv_X5 kf_X5_9 rfl lM_o_many dX5_note_16 ?_
    refine g_iload_n X dX5_note_19 1 rfl rfl ?_
    refine g_ialdN X 1 t (by omega) lM_many (by omega) (by decide) dX5_note_20 ?_
    rw [rM_many (by omega)]
    rw [hL]
    refine g_iconst X (v := 1) dX5_note_21 (by decide) ?_
    refine g_isub X dX5_note_22 ?_
    refine g_mcallSi X (c_X5_isIn l D cy ad _ _ _ _ _ _) kl_X5_60 ⟨rfl, rfl, Nat.le_of_ble_eq_true rfl, Nat.le_of_ble_eq_true rfl⟩ rfl rfl (Nat.le_of_ble_eq_true rfl) dX5_note_23 ⟨Nat.le_of_ble_eq_true rfl, Nat.le_of_ble_eq_true rfl⟩ (fun r_10 ρ_9 h_11 => ?_)
    obtain ⟨er_10, e9⟩ := h_11
    rw [e9, er_10]
    clear e9
    rw [isI_pred (m := nI L) (T := L) rfl (by omega)]
    refine g_if_eq X 43 dX5_note_26 (by decide) (fun c_12 => ?_) (fun c_12 => ?_)
    · skip
      have nb := b10_f c_12
      refine g_aload_n X dX5_note_43 0 rfl rfl ?_
      refine g_iconst X (v := 1) dX5_note_44 (by decide) ?_
      refine g_mcallVi X 0 (c_X5_no l D cy ad _ _ _ _) kl_X5_67 ⟨rfl, rfl, Nat.le_of_ble_eq_true rfl, Nat.le_of_ble_eq_true rfl⟩ (by omega) lM_O kv_X5 rfl rfl (Nat.le_of_ble_eq_true rfl) dX5_note_45 ⟨Nat.le_of_ble_eq_true rfl, Nat.le_of_ble_eq_true rfl⟩ (fun r_14 ρ_13 h_15 => ?_)
      obtain ⟨er_14, e9⟩ := h_15
      rw [e9, er_14]
      exact g_iret X hr hlk (by omega) (by omega) dX5_note_48 (by have hF : notF ρ (nI t) y = (1, 0, ρ) := (by unfold notF; rw [if_pos ibt, ext, hL, if_neg nb]); rw [hF]; exact ⟨_, rfl, fun _ => rfl⟩)
    · skip
      have ibk := b10_t c_12
      obtain ⟨k, hk, rfl⟩ := inb_N (T := L) rfl (by omega) ibk
      have exk : ix (nI k) = k := nI_clamp (by omega)
      refine g_aload_n X dX5_note_29 0 rfl rfl ?_
      refine g_getr X 0 (by omega) 3 (by decide) ku_X5 kv_X5 kf_X5_13 rfl lM_o_notes dX5_note_30 ?_
      refine g_bipush X (v := 16) dX5_note_33 (by decide) ?_
      refine g_iload_n X dX5_note_35 1 rfl rfl ?_
      refine g_imul X dX5_note_36 ?_
      rw [show (16 : Int32) * nI t = nI (16 * t) from mulN 16 t]
      refine g_iload_n X dX5_note_37 2 rfl rfl ?_
      refine g_iadd X dX5_note_38 ?_
      rw [nI_add]
      refine g_ialdN X 2 (16 * t + k) (by omega) lM_notes (by omega) (by decide) dX5_note_39 ?_
      rw [rM_notes (by omega) (by omega)]
      refine g_goto X 48 dX5_note_40 (by decide) ?_
      exact g_iret X hr hlk (by omega) (by omega) dX5_note_48 (by have hF : notF ρ (nI t) (nI k) = (0, ρ (15 + 3 * t) k, ρ) := (by unfold notF; rw [if_pos ibt, ext, hL, if_pos ibk, exk]); rw [hF]; exact ⟨_, rfl, fun _ => rfl⟩)

set_option maxHeartbeats 1000000 in
set_option maxRecDepth 100000 in
theorem c_X5_street (l : Launch) (D : va_G) (cy : Nat → ClassId) (ad : Nat → Nat) (ρ : Nat → Nat → Int32) (th a : Int32) (N T S d : Nat) (hI : Inv ρ N T S d) (x y : Int32) : gMI l yX5_street cX5_street 3 (some .int) { frames := 2, cells := 0, slots := 0, locals := 42 } D cy 18 ad (cM ad cy) [.ref (ad 0), .int x, .int y] (rM ρ th a) (fun r μ1 => ∃ a9 : Int32, μ1 = rM (strF ρ x y).2.2 (nI (strF ρ x y).1) a9 ∧ ((strF ρ x y).1 = 0 → r = (strF ρ x y).2.1)) 0 0 := by
  refine gMI_of (ls := [(0, .ref (ad 0)), (1, .int x), (2, .int y)]) RX5 rfl (by decide +kernel) (Nat.le_of_ble_eq_true rfl) rfl ?_
  intro p e s m args below meth c A X hr hlk hnm
  obtain ⟨hT, hT6, hS, hS8, hd, hdN, hN, hTu, hSt, hPi, hZ, hHd⟩ := id hI
  have hwd : wdF ρ = nI (d % 7) := by unfold wdF; rw [hd, nI_clamp (by omega)]
  refine g_aload_n X dX5_street_0 0 rfl rfl ?_
  refine g_iconst X (v := 0) dX5_street_1 (by decide) ?_
  refine g_puti X 0 (by omega) 0 (by decide) ku_X5 kv_X5 kf_X5_45 rfl tyX5 tyX5_ok nmX5 rfl (by decide +kernel) lM_o_thrown dX5_street_2 (fun ρ_1 eρ_1 => ?_)
  rw [eρ_1, wM_thr]
  refine g_iload_n X dX5_street_5 1 rfl rfl ?_
  refine g_iconst X (v := 0) dX5_street_6 (by decide) ?_
  refine g_bipush X (v := 90) dX5_street_7 (by decide) ?_
  refine g_mcallSi X (c_X5_isIn l D cy ad _ _ _ _ _ _) kl_X5_60 ⟨rfl, rfl, Nat.le_of_ble_eq_true rfl, Nat.le_of_ble_eq_true rfl⟩ rfl rfl (Nat.le_of_ble_eq_true rfl) dX5_street_9 ⟨Nat.le_of_ble_eq_true rfl, Nat.le_of_ble_eq_true rfl⟩ (fun r_3 ρ_2 h_4 => ?_)
  obtain ⟨er_3, e9⟩ := h_4
  rw [e9, er_3]
  clear e9
  rw [show isI x 0 90 = (if inl x 90 then 1 else 0) from rfl]
  refine g_if_eq X 22 dX5_street_12 (by decide) (fun c_5 => ?_) (fun c_5 => ?_)
  · skip
    have nb := b10_f c_5
    refine g_aload_n X dX5_street_22 0 rfl rfl ?_
    refine g_iconst X (v := 1) dX5_street_23 (by decide) ?_
    refine g_mcallVi X 0 (c_X5_no l D cy ad _ _ _ _) kl_X5_67 ⟨rfl, rfl, Nat.le_of_ble_eq_true rfl, Nat.le_of_ble_eq_true rfl⟩ (by omega) lM_O kv_X5 rfl rfl (Nat.le_of_ble_eq_true rfl) dX5_street_24 ⟨Nat.le_of_ble_eq_true rfl, Nat.le_of_ble_eq_true rfl⟩ (fun r_7 ρ_6 h_8 => ?_)
    obtain ⟨er_7, e9⟩ := h_8
    rw [e9, er_7]
    exact g_iret X hr hlk (by omega) (by omega) dX5_street_27 (by have hF : strF ρ x y = (1, 0, ρ) := (by unfold strF; rw [if_neg nb]); rw [hF]; exact ⟨_, rfl, fun _ => rfl⟩)
  · skip
    have ibx := b10_t c_5
    refine g_iload_n X dX5_street_15 2 rfl rfl ?_
    refine g_mcallSi X (c_X5_isDays l D cy ad _ _ _ _) kl_X5_78 ⟨rfl, rfl, Nat.le_of_ble_eq_true rfl, Nat.le_of_ble_eq_true rfl⟩ rfl rfl (Nat.le_of_ble_eq_true rfl) dX5_street_16 ⟨Nat.le_of_ble_eq_true rfl, Nat.le_of_ble_eq_true rfl⟩ (fun r_10 ρ_9 h_11 => ?_)
    obtain ⟨er_10, e9⟩ := h_11
    rw [e9, er_10]
    clear e9
    refine g_if_ne X 28 dX5_street_19 (by decide) (fun c_12 => ?_) (fun c_12 => ?_)
    · skip
      have iby := b10_t c_12
      refine g_aload_n X dX5_street_28 0 rfl rfl ?_
      refine g_geti X 0 (by omega) 4 (by decide) ku_X5 kv_X5 kf_X5_64 rfl lM_o_streets dX5_street_29 ?_
      rw [rM_str, hS]
      refine g_bipush X (v := 8) dX5_street_32 (by decide) ?_
      refine g_icmp_neN X S 8 43 (by omega) (by omega) dX5_street_34 (by decide) (fun c_13 => ?_) (fun c_13 => ?_)
      · skip
        refine g_aload_n X dX5_street_43 0 rfl rfl ?_
        refine g_getr X 0 (by omega) 5 (by decide) ku_X5 kv_X5 kf_X5_16 rfl lM_o_listeners dX5_street_44 ?_
        refine g_aload_n X dX5_street_47 0 rfl rfl ?_
        refine g_geti X 0 (by omega) 4 (by decide) ku_X5 kv_X5 kf_X5_64 rfl lM_o_streets dX5_street_48 ?_
        rw [rM_str, hS]
        refine g_iload_n X dX5_street_51 1 rfl rfl ?_
        refine g_iastN X 3 S (by omega) lM_listeners (by omega) (by decide) dX5_street_52 (fun ρ_14 eρ_14 => ?_)
        rw [eρ_14, wM_lis (by omega)]
        refine g_aload_n X dX5_street_53 0 rfl rfl ?_
        refine g_getr X 0 (by omega) 6 (by decide) ku_X5 kv_X5 kf_X5_19 rfl lM_o_permits dX5_street_54 ?_
        refine g_aload_n X dX5_street_57 0 rfl rfl ?_
        refine g_geti X 0 (by omega) 4 (by decide) ku_X5 kv_X5 kf_X5_64 rfl lM_o_streets dX5_street_58 ?_
        rw [rM_str]
        rw [up2_k (by omega), hS]
        refine g_iload_n X dX5_street_61 2 rfl rfl ?_
        refine g_iastN X 4 S (by omega) lM_permits (by omega) (by decide) dX5_street_62 (fun ρ_15 eρ_15 => ?_)
        rw [eρ_15, wM_per (by omega)]
        refine g_aload_n X dX5_street_63 0 rfl rfl ?_
        refine g_dup X dX5_street_64 rfl ?_
        refine g_geti X 0 (by omega) 4 (by decide) ku_X5 kv_X5 kf_X5_64 rfl lM_o_streets dX5_street_65 ?_
        rw [rM_str]
        rw [up2_k (by omega), up2_k (by omega), hS]
        refine g_iconst X (v := 1) dX5_street_68 (by decide) ?_
        refine g_iadd X dX5_street_69 ?_
        refine g_puti X 0 (by omega) 4 (by decide) ku_X5 kv_X5 kf_X5_64 rfl tyX5 tyX5_ok nmX5 rfl (by decide +kernel) lM_o_streets dX5_street_70 (fun ρ_16 eρ_16 => ?_)
        rw [eρ_16, wM_str]
        refine g_aload_n X dX5_street_73 0 rfl rfl ?_
        refine g_geti X 0 (by omega) 4 (by decide) ku_X5 kv_X5 kf_X5_64 rfl lM_o_streets dX5_street_74 ?_
        rw [rM_str]
        rw [up2_s]
        refine g_iconst X (v := 1) dX5_street_77 (by decide) ?_
        refine g_isub X dX5_street_78 ?_
        exact g_iret X hr hlk (by omega) (by omega) dX5_street_79 (by have hF : strF ρ x y = (0, nI S, up2 (up2 (up2 ρ (32 + 2 * S) 1 x) (32 + 2 * S) 2 y) 0 6 (nI S + 1)) := (by unfold strF; rw [if_pos ibx, if_pos iby, if_neg (by rw [hS]; exact nI_ne (a := S) (b := 8) (by omega) (by omega) (by omega)), hS, show ix (nI S) = S from nI_clamp (by omega)]); rw [hF]; exact ⟨_, rfl, fun _ => Int32.add_sub_cancel _ _⟩)
      · skip
        refine g_aload_n X dX5_street_37 0 rfl rfl ?_
        refine g_iconst X (v := 2) dX5_street_38 (by decide) ?_
        refine g_mcallVi X 0 (c_X5_no l D cy ad _ _ _ _) kl_X5_67 ⟨rfl, rfl, Nat.le_of_ble_eq_true rfl, Nat.le_of_ble_eq_true rfl⟩ (by omega) lM_O kv_X5 rfl rfl (Nat.le_of_ble_eq_true rfl) dX5_street_39 ⟨Nat.le_of_ble_eq_true rfl, Nat.le_of_ble_eq_true rfl⟩ (fun r_18 ρ_17 h_19 => ?_)
        obtain ⟨er_18, e9⟩ := h_19
        rw [e9, er_18]
        exact g_iret X hr hlk (by omega) (by omega) dX5_street_42 (by have hF : strF ρ x y = (2, 0, ρ) := (by unfold strF; rw [if_pos ibx, if_pos iby, if_pos (by rw [hS, show S = 8 by omega]; rfl)]); rw [hF]; exact ⟨_, rfl, fun _ => rfl⟩)
    · skip
      have nb := b10_f c_12
      refine g_aload_n X dX5_street_22 0 rfl rfl ?_
      refine g_iconst X (v := 1) dX5_street_23 (by decide) ?_
      refine g_mcallVi X 0 (c_X5_no l D cy ad _ _ _ _) kl_X5_67 ⟨rfl, rfl, Nat.le_of_ble_eq_true rfl, Nat.le_of_ble_eq_true rfl⟩ (by omega) lM_O kv_X5 rfl rfl (Nat.le_of_ble_eq_true rfl) dX5_street_24 ⟨Nat.le_of_ble_eq_true rfl, Nat.le_of_ble_eq_true rfl⟩ (fun r_21 ρ_20 h_22 => ?_)
      obtain ⟨er_21, e9⟩ := h_22
      rw [e9, er_21]
      exact g_iret X hr hlk (by omega) (by omega) dX5_street_27 (by have hF : strF ρ x y = (1, 0, ρ) := (by unfold strF; rw [if_pos ibx, if_neg nb]); rw [hF]; exact ⟨_, rfl, fun _ => rfl⟩)

set_option maxHeartbeats 1000000 in
set_option maxRecDepth 100000 in
theorem c_X5_permit (l : Launch) (D : va_G) (cy : Nat → ClassId) (ad : Nat → Nat) (ρ : Nat → Nat → Int32) (th a : Int32) (N T S d : Nat) (hI : Inv ρ N T S d) (x y : Int32) : gMI l yX5_permit cX5_permit 4 (some .int) { frames := 2, cells := 0, slots := 0, locals := 43 } D cy 18 ad (cM ad cy) [.ref (ad 0), .int x, .int y] (rM ρ th a) (fun r μ1 => ∃ a9 : Int32, μ1 = rM (perF ρ x y).2.2 (nI (perF ρ x y).1) a9 ∧ ((perF ρ x y).1 = 0 → r = (perF ρ x y).2.1)) 0 0 := by
  refine gMI_of (ls := [(0, .ref (ad 0)), (1, .int x), (2, .int y)]) RX5 rfl (by decide +kernel) (Nat.le_of_ble_eq_true rfl) rfl ?_
  intro p e s m args below meth c A X hr hlk hnm
  obtain ⟨hT, hT6, hS, hS8, hd, hdN, hN, hTu, hSt, hPi, hZ, hHd⟩ := id hI
  have hwd : wdF ρ = nI (d % 7) := by unfold wdF; rw [hd, nI_clamp (by omega)]
  refine g_aload_n X dX5_permit_0 0 rfl rfl ?_
  refine g_iconst X (v := 0) dX5_permit_1 (by decide) ?_
  refine g_puti X 0 (by omega) 0 (by decide) ku_X5 kv_X5 kf_X5_45 rfl tyX5 tyX5_ok nmX5 rfl (by decide +kernel) lM_o_thrown dX5_permit_2 (fun ρ_1 eρ_1 => ?_)
  rw [eρ_1, wM_thr]
  refine g_aload_n X dX5_permit_5 0 rfl rfl ?_
  refine g_iload_n X dX5_permit_6 1 rfl rfl ?_
  refine g_mcallVi X 0 (c_X5_isStreet l D cy ad _ _ _ _ S hS (by omega)) kl_X5_81 ⟨rfl, rfl, Nat.le_of_ble_eq_true rfl, Nat.le_of_ble_eq_true rfl⟩ (by omega) lM_O kv_X5 rfl rfl (Nat.le_of_ble_eq_true rfl) dX5_permit_7 ⟨Nat.le_of_ble_eq_true rfl, Nat.le_of_ble_eq_true rfl⟩ (fun r_3 ρ_2 h_4 => ?_)
  obtain ⟨er_3, e9⟩ := h_4
  rw [e9, er_3]
  clear e9
  refine g_if_ne X 19 dX5_permit_10 (by decide) (fun c_5 => ?_) (fun c_5 => ?_)
  · skip
    have ibz := b10_t c_5
    obtain ⟨z, hz, rfl⟩ := inb_N hS (by omega) ibz
    have exz : ix (nI z) = z := nI_clamp (by omega)
    refine g_iload_n X dX5_permit_19 2 rfl rfl ?_
    refine g_mcallSi X (c_X5_isDays l D cy ad _ _ _ _) kl_X5_78 ⟨rfl, rfl, Nat.le_of_ble_eq_true rfl, Nat.le_of_ble_eq_true rfl⟩ rfl rfl (Nat.le_of_ble_eq_true rfl) dX5_permit_20 ⟨Nat.le_of_ble_eq_true rfl, Nat.le_of_ble_eq_true rfl⟩ (fun r_7 ρ_6 h_8 => ?_)
    obtain ⟨er_7, e9⟩ := h_8
    rw [e9, er_7]
    clear e9
    refine g_if_ne X 32 dX5_permit_23 (by decide) (fun c_9 => ?_) (fun c_9 => ?_)
    · skip
      have iby := b10_t c_9
      refine g_aload_n X dX5_permit_32 0 rfl rfl ?_
      refine g_getr X 0 (by omega) 6 (by decide) ku_X5 kv_X5 kf_X5_19 rfl lM_o_permits dX5_permit_33 ?_
      refine g_iload_n X dX5_permit_36 1 rfl rfl ?_
      refine g_ialdN X 4 z (by omega) lM_permits (by omega) (by decide) dX5_permit_37 ?_
      rw [rM_per (by omega)]
      refine g_istore_n X [(3, .int _), (0, .ref _), (1, .int _), (2, .int _)] dX5_permit_38 rfl (by decide) rfl ?_
      refine g_aload_n X dX5_permit_39 1 rfl rfl ?_
      refine g_getr X 0 (by omega) 6 (by decide) ku_X5 kv_X5 kf_X5_19 rfl lM_o_permits dX5_permit_40 ?_
      refine g_iload_n X dX5_permit_43 2 rfl rfl ?_
      refine g_iload_n X dX5_permit_44 3 rfl rfl ?_
      refine g_iastN X 4 z (by omega) lM_permits (by omega) (by decide) dX5_permit_45 (fun ρ_10 eρ_10 => ?_)
      rw [eρ_10, wM_per (by omega)]
      refine g_iload_n X dX5_permit_46 0 rfl rfl ?_
      exact g_iret X hr hlk (by omega) (by omega) dX5_permit_47 (by have hF : perF ρ (nI z) y = (0, ρ (32 + 2 * z) 2, up2 ρ (32 + 2 * z) 2 y) := (by unfold perF; rw [if_pos ibz, if_pos iby, exz]); rw [hF]; exact ⟨_, rfl, fun _ => rfl⟩)
    · skip
      have nb := b10_f c_9
      refine g_aload_n X dX5_permit_26 0 rfl rfl ?_
      refine g_iconst X (v := 2) dX5_permit_27 (by decide) ?_
      refine g_mcallVi X 0 (c_X5_no l D cy ad _ _ _ _) kl_X5_67 ⟨rfl, rfl, Nat.le_of_ble_eq_true rfl, Nat.le_of_ble_eq_true rfl⟩ (by omega) lM_O kv_X5 rfl rfl (Nat.le_of_ble_eq_true rfl) dX5_permit_28 ⟨Nat.le_of_ble_eq_true rfl, Nat.le_of_ble_eq_true rfl⟩ (fun r_12 ρ_11 h_13 => ?_)
      obtain ⟨er_12, e9⟩ := h_13
      rw [e9, er_12]
      exact g_iret X hr hlk (by omega) (by omega) dX5_permit_31 (by have hF : perF ρ (nI z) y = (2, 0, ρ) := (by unfold perF; rw [if_pos ibz, if_neg nb]); rw [hF]; exact ⟨_, rfl, fun _ => rfl⟩)
  · skip
    have nb := b10_f c_5
    refine g_aload_n X dX5_permit_13 0 rfl rfl ?_
    refine g_iconst X (v := 1) dX5_permit_14 (by decide) ?_
    refine g_mcallVi X 0 (c_X5_no l D cy ad _ _ _ _) kl_X5_67 ⟨rfl, rfl, Nat.le_of_ble_eq_true rfl, Nat.le_of_ble_eq_true rfl⟩ (by omega) lM_O kv_X5 rfl rfl (Nat.le_of_ble_eq_true rfl) dX5_permit_15 ⟨Nat.le_of_ble_eq_true rfl, Nat.le_of_ble_eq_true rfl⟩ (fun r_15 ρ_14 h_16 => ?_)
    obtain ⟨er_15, e9⟩ := h_16
    rw [e9, er_15]
    exact g_iret X hr hlk (by omega) (by omega) dX5_permit_18 (by have hF : perF ρ x y = (1, 0, ρ) := (by unfold perF; rw [if_neg nb]); rw [hF]; exact ⟨_, rfl, fun _ => rfl⟩)

set_option maxHeartbeats 1000000 in
set_option maxRecDepth 100000 in
theorem c_X5_setDamp (l : Launch) (D : va_G) (cy : Nat → ClassId) (ad : Nat → Nat) (ρ : Nat → Nat → Int32) (th a : Int32) (N T S d : Nat) (hI : Inv ρ N T S d) (x y : Int32) : gMI l yX5_setDamp cX5_setDamp 4 (some .int) { frames := 1, cells := 0, slots := 0, locals := 22 } D cy 18 ad (cM ad cy) [.ref (ad 0), .int x, .int y] (rM ρ th a) (fun r μ1 => ∃ a9 : Int32, μ1 = rM (damF ρ x y).2.2 (nI (damF ρ x y).1) a9 ∧ ((damF ρ x y).1 = 0 → r = (damF ρ x y).2.1)) 0 0 := by
  refine gMI_of (ls := [(0, .ref (ad 0)), (1, .int x), (2, .int y)]) RX5 rfl (by decide +kernel) (Nat.le_of_ble_eq_true rfl) rfl ?_
  intro p e s m args below meth c A X hr hlk hnm
  obtain ⟨hT, hT6, hS, hS8, hd, hdN, hN, hTu, hSt, hPi, hZ, hHd⟩ := id hI
  have hwd : wdF ρ = nI (d % 7) := by unfold wdF; rw [hd, nI_clamp (by omega)]
  refine g_aload_n X dX5_setDamp_0 0 rfl rfl ?_
  refine g_iconst X (v := 0) dX5_setDamp_1 (by decide) ?_
  refine g_puti X 0 (by omega) 0 (by decide) ku_X5 kv_X5 kf_X5_45 rfl tyX5 tyX5_ok nmX5 rfl (by decide +kernel) lM_o_thrown dX5_setDamp_2 (fun ρ_1 eρ_1 => ?_)
  rw [eρ_1, wM_thr]
  refine g_iload_n X dX5_setDamp_5 1 rfl rfl ?_
  refine g_iconst X (v := 0) dX5_setDamp_6 (by decide) ?_
  refine g_bipush X (v := 6) dX5_setDamp_7 (by decide) ?_
  refine g_mcallSi X (c_X5_isIn l D cy ad _ _ _ _ _ _) kl_X5_60 ⟨rfl, rfl, Nat.le_of_ble_eq_true rfl, Nat.le_of_ble_eq_true rfl⟩ rfl rfl (Nat.le_of_ble_eq_true rfl) dX5_setDamp_9 ⟨Nat.le_of_ble_eq_true rfl, Nat.le_of_ble_eq_true rfl⟩ (fun r_3 ρ_2 h_4 => ?_)
  obtain ⟨er_3, e9⟩ := h_4
  rw [e9, er_3]
  clear e9
  rw [isI_7]
  refine g_if_ne X 21 dX5_setDamp_12 (by decide) (fun c_5 => ?_) (fun c_5 => ?_)
  · skip
    have ibk := b10_t c_5
    obtain ⟨k, hk, rfl⟩ := inb_N (T := 7) rfl (by omega) ibk
    have exk : ix (nI k) = k := nI_clamp (by omega)
    refine g_iload_n X dX5_setDamp_21 2 rfl rfl ?_
    refine g_iconst X (v := 0) dX5_setDamp_22 (by decide) ?_
    refine g_iconst X (v := 5) dX5_setDamp_23 (by decide) ?_
    refine g_mcallSi X (c_X5_isIn l D cy ad _ _ _ _ _ _) kl_X5_60 ⟨rfl, rfl, Nat.le_of_ble_eq_true rfl, Nat.le_of_ble_eq_true rfl⟩ rfl rfl (Nat.le_of_ble_eq_true rfl) dX5_setDamp_24 ⟨Nat.le_of_ble_eq_true rfl, Nat.le_of_ble_eq_true rfl⟩ (fun r_7 ρ_6 h_8 => ?_)
    obtain ⟨er_7, e9⟩ := h_8
    rw [e9, er_7]
    clear e9
    rw [show isI y 0 5 = (if inl y 5 then 1 else 0) from rfl]
    refine g_if_ne X 36 dX5_setDamp_27 (by decide) (fun c_9 => ?_) (fun c_9 => ?_)
    · skip
      have iby := b10_t c_9
      refine g_aload_n X dX5_setDamp_36 0 rfl rfl ?_
      refine g_getr X 0 (by omega) 9 (by decide) ku_X5 kv_X5 kf_X5_28 rfl lM_o_damp dX5_setDamp_37 ?_
      refine g_iload_n X dX5_setDamp_40 1 rfl rfl ?_
      refine g_ialdN X 7 k (by omega) lM_damp (by omega) (by decide) dX5_setDamp_41 ?_
      rw [rM_dam (by omega)]
      refine g_istore_n X [(3, .int _), (0, .ref _), (1, .int _), (2, .int _)] dX5_setDamp_42 rfl (by decide) rfl ?_
      refine g_aload_n X dX5_setDamp_43 1 rfl rfl ?_
      refine g_getr X 0 (by omega) 9 (by decide) ku_X5 kv_X5 kf_X5_28 rfl lM_o_damp dX5_setDamp_44 ?_
      refine g_iload_n X dX5_setDamp_47 2 rfl rfl ?_
      refine g_iload_n X dX5_setDamp_48 3 rfl rfl ?_
      refine g_iastN X 7 k (by omega) lM_damp (by omega) (by decide) dX5_setDamp_49 (fun ρ_10 eρ_10 => ?_)
      rw [eρ_10, wM_dam (by omega)]
      refine g_iload_n X dX5_setDamp_50 0 rfl rfl ?_
      exact g_iret X hr hlk (by omega) (by omega) dX5_setDamp_51 (by have hF : damF ρ (nI k) y = (0, ρ 13 k, up2 ρ 13 k y) := (by unfold damF; rw [if_pos ibk, if_pos iby, exk]); rw [hF]; exact ⟨_, rfl, fun _ => rfl⟩)
    · skip
      have nb := b10_f c_9
      refine g_aload_n X dX5_setDamp_30 0 rfl rfl ?_
      refine g_iconst X (v := 2) dX5_setDamp_31 (by decide) ?_
      refine g_mcallVi X 0 (c_X5_no l D cy ad _ _ _ _) kl_X5_67 ⟨rfl, rfl, Nat.le_of_ble_eq_true rfl, Nat.le_of_ble_eq_true rfl⟩ (by omega) lM_O kv_X5 rfl rfl (Nat.le_of_ble_eq_true rfl) dX5_setDamp_32 ⟨Nat.le_of_ble_eq_true rfl, Nat.le_of_ble_eq_true rfl⟩ (fun r_12 ρ_11 h_13 => ?_)
      obtain ⟨er_12, e9⟩ := h_13
      rw [e9, er_12]
      exact g_iret X hr hlk (by omega) (by omega) dX5_setDamp_35 (by have hF : damF ρ (nI k) y = (2, 0, ρ) := (by unfold damF; rw [if_pos ibk, if_neg nb]); rw [hF]; exact ⟨_, rfl, fun _ => rfl⟩)
  · skip
    have nb := b10_f c_5
    refine g_aload_n X dX5_setDamp_15 0 rfl rfl ?_
    refine g_iconst X (v := 1) dX5_setDamp_16 (by decide) ?_
    refine g_mcallVi X 0 (c_X5_no l D cy ad _ _ _ _) kl_X5_67 ⟨rfl, rfl, Nat.le_of_ble_eq_true rfl, Nat.le_of_ble_eq_true rfl⟩ (by omega) lM_O kv_X5 rfl rfl (Nat.le_of_ble_eq_true rfl) dX5_setDamp_17 ⟨Nat.le_of_ble_eq_true rfl, Nat.le_of_ble_eq_true rfl⟩ (fun r_15 ρ_14 h_16 => ?_)
    obtain ⟨er_15, e9⟩ := h_16
    rw [e9, er_15]
    exact g_iret X hr hlk (by omega) (by omega) dX5_setDamp_20 (by have hF : damF ρ x y = (1, 0, ρ) := (by unfold damF; rw [if_neg nb]); rw [hF]; exact ⟨_, rfl, fun _ => rfl⟩)

set_option maxHeartbeats 1000000 in
set_option maxRecDepth 100000 in
theorem c_X5_play (l : Launch) (D : va_G) (cy : Nat → ClassId) (ad : Nat → Nat) (ρ : Nat → Nat → Int32) (th a : Int32) (N T S d : Nat) (hI : Inv ρ N T S d) (x y : Int32) : gMI l yX5_play cX5_play 4 (some .int) { frames := 4, cells := 0, slots := 0, locals := 90 } D cy 18 ad (cM ad cy) [.ref (ad 0), .int x, .int y] (rM ρ th a) (fun r μ1 => ∃ a9 : Int32, μ1 = rM (plaF ρ x y).2.2 (nI (plaF ρ x y).1) a9 ∧ ((plaF ρ x y).1 = 0 → r = (plaF ρ x y).2.1)) 0 0 := by
  refine gMI_of (ls := [(0, .ref (ad 0)), (1, .int x), (2, .int y)]) RX5 rfl (by decide +kernel) (Nat.le_of_ble_eq_true rfl) rfl ?_
  intro p e s m args below meth c A X hr hlk hnm
  obtain ⟨hT, hT6, hS, hS8, hd, hdN, hN, hTu, hSt, hPi, hZ, hHd⟩ := id hI
  have hwd : wdF ρ = nI (d % 7) := by unfold wdF; rw [hd, nI_clamp (by omega)]
  refine g_aload_n X dX5_play_0 0 rfl rfl ?_
  refine g_iconst X (v := 0) dX5_play_1 (by decide) ?_
  refine g_puti X 0 (by omega) 0 (by decide) ku_X5 kv_X5 kf_X5_45 rfl tyX5 tyX5_ok nmX5 rfl (by decide +kernel) lM_o_thrown dX5_play_2 (fun ρ_1 eρ_1 => ?_)
  rw [eρ_1, wM_thr]
  refine g_aload_n X dX5_play_5 0 rfl rfl ?_
  refine g_iload_n X dX5_play_6 1 rfl rfl ?_
  refine g_mcallVi X 0 (c_X5_isStreet l D cy ad _ _ _ _ S hS (by omega)) kl_X5_81 ⟨rfl, rfl, Nat.le_of_ble_eq_true rfl, Nat.le_of_ble_eq_true rfl⟩ (by omega) lM_O kv_X5 rfl rfl (Nat.le_of_ble_eq_true rfl) dX5_play_7 ⟨Nat.le_of_ble_eq_true rfl, Nat.le_of_ble_eq_true rfl⟩ (fun r_3 ρ_2 h_4 => ?_)
  obtain ⟨er_3, e9⟩ := h_4
  rw [e9, er_3]
  clear e9
  refine g_if_eq X 21 dX5_play_10 (by decide) (fun c_5 => ?_) (fun c_5 => ?_)
  · skip
    have nb := b10_f c_5
    refine g_aload_n X dX5_play_21 0 rfl rfl ?_
    refine g_iconst X (v := 1) dX5_play_22 (by decide) ?_
    refine g_mcallVi X 0 (c_X5_no l D cy ad _ _ _ _) kl_X5_67 ⟨rfl, rfl, Nat.le_of_ble_eq_true rfl, Nat.le_of_ble_eq_true rfl⟩ (by omega) lM_O kv_X5 rfl rfl (Nat.le_of_ble_eq_true rfl) dX5_play_23 ⟨Nat.le_of_ble_eq_true rfl, Nat.le_of_ble_eq_true rfl⟩ (fun r_7 ρ_6 h_8 => ?_)
    obtain ⟨er_7, e9⟩ := h_8
    rw [e9, er_7]
    exact g_iret X hr hlk (by omega) (by omega) dX5_play_26 (by have hF : plaF ρ x y = (1, 0, ρ) := (by unfold plaF; rw [if_neg nb]); rw [hF]; exact ⟨_, rfl, fun _ => rfl⟩)
  · skip
    have ibz := b10_t c_5
    obtain ⟨z, hz, rfl⟩ := inb_N hS (by omega) ibz
    have exz : ix (nI z) = z := nI_clamp (by omega)
    refine g_aload_n X dX5_play_13 0 rfl rfl ?_
    refine g_iload_n X dX5_play_14 2 rfl rfl ?_
    refine g_mcallVi X 0 (c_X5_isTune l D cy ad _ _ _ _ T hT (by omega)) kl_X5_71 ⟨rfl, rfl, Nat.le_of_ble_eq_true rfl, Nat.le_of_ble_eq_true rfl⟩ (by omega) lM_O kv_X5 rfl rfl (Nat.le_of_ble_eq_true rfl) dX5_play_15 ⟨Nat.le_of_ble_eq_true rfl, Nat.le_of_ble_eq_true rfl⟩ (fun r_10 ρ_9 h_11 => ?_)
    obtain ⟨er_10, e9⟩ := h_11
    rw [e9, er_10]
    clear e9
    refine g_if_ne X 27 dX5_play_18 (by decide) (fun c_12 => ?_) (fun c_12 => ?_)
    · skip
      have ibt := b10_t c_12
      obtain ⟨t, ht, rfl⟩ := inb_N hT (by omega) ibt
      have ext : ix (nI t) = t := nI_clamp (by omega)
      obtain ⟨L, hL, hL16, hLn, hLc⟩ := hTu t (by omega)
      refine g_aload_n X dX5_play_27 0 rfl rfl ?_
      refine g_getr X 0 (by omega) 2 (by decide) ku_X5 kv_X5 kf_X5_9 rfl lM_o_many dX5_play_28 ?_
      refine g_iload_n X dX5_play_31 2 rfl rfl ?_
      refine g_ialdN X 1 t (by omega) lM_many (by omega) (by decide) dX5_play_32 ?_
      rw [rM_many (by omega)]
      rw [hL]
      refine g_if_ne X 42 dX5_play_33 (by decide) (fun c_13 => ?_) (fun c_13 => ?_)
      · skip
        have cL := c_13
        refine g_aload_n X dX5_play_42 0 rfl rfl ?_
        refine g_iload_n X dX5_play_43 1 rfl rfl ?_
        refine g_mcallVi X 0 (c_X5_isPermitted l D cy ad _ _ _ z d (by omega) hd (by omega)) kl_X5_98 ⟨rfl, rfl, Nat.le_of_ble_eq_true rfl, Nat.le_of_ble_eq_true rfl⟩ (by omega) lM_O kv_X5 rfl rfl (Nat.le_of_ble_eq_true rfl) dX5_play_44 ⟨Nat.le_of_ble_eq_true rfl, Nat.le_of_ble_eq_true rfl⟩ (fun r_15 ρ_14 h_16 => ?_)
        obtain ⟨er_15, e9⟩ := h_16
        rw [e9, er_15]
        clear e9
        refine g_if_ne X 83 dX5_play_47 (by decide) (fun c_17 => ?_) (fun c_17 => ?_)
        · skip
          have cP := c_17
          refine g_aload_n X dX5_play_83 0 rfl rfl ?_
          refine g_iload_n X dX5_play_84 1 rfl rfl ?_
          refine g_iload_n X dX5_play_85 2 rfl rfl ?_
          refine g_mcallVi X 0 (c_X5_paysNow l D cy ad _ _ _ z t (by omega) (by omega) N T S d hI) kl_X5_104 ⟨rfl, rfl, Nat.le_of_ble_eq_true rfl, Nat.le_of_ble_eq_true rfl⟩ (by omega) lM_O kv_X5 rfl rfl (Nat.le_of_ble_eq_true rfl) dX5_play_86 ⟨Nat.le_of_ble_eq_true rfl, Nat.le_of_ble_eq_true rfl⟩ (fun r_19 ρ_18 h_20 => ?_)
          obtain ⟨er_19, e9⟩ := h_20
          rw [e9, er_19]
          clear e9
          refine g_istore_n X [(3, .int _), (0, .ref _), (1, .int _), (2, .int _)] dX5_play_89 rfl (by decide) rfl ?_
          refine g_aload_n X dX5_play_90 1 rfl rfl ?_
          refine g_dup X dX5_play_91 rfl ?_
          refine g_geti X 0 (by omega) 10 (by decide) ku_X5 kv_X5 kf_X5_31 rfl lM_o_coins dX5_play_92 ?_
          rw [rM_coi]
          refine g_iload_n X dX5_play_95 0 rfl rfl ?_
          refine g_iadd X dX5_play_96 ?_
          refine g_puti X 0 (by omega) 10 (by decide) ku_X5 kv_X5 kf_X5_31 rfl tyX5 tyX5_ok nmX5 rfl (by decide +kernel) lM_o_coins dX5_play_97 (fun ρ_21 eρ_21 => ?_)
          rw [eρ_21, wM_coi]
          refine g_aload_n X dX5_play_100 1 rfl rfl ?_
          refine g_getr X 0 (by omega) 7 (by decide) ku_X5 kv_X5 kf_X5_22 rfl lM_o_paid dX5_play_101 ?_
          refine g_iload_n X dX5_play_104 2 rfl rfl ?_
          refine g_dup2 X dX5_play_105 rfl rfl ?_
          refine g_ialdN X 5 z (by omega) lM_paid (by omega) (by decide) dX5_play_106 ?_
          rw [rM_pai (by omega)]
          rw [up2_k (by omega)]
          refine g_iload_n X dX5_play_107 0 rfl rfl ?_
          refine g_iadd X dX5_play_108 ?_
          refine g_iastN X 5 z (by omega) lM_paid (by omega) (by decide) dX5_play_109 (fun ρ_22 eρ_22 => ?_)
          rw [eρ_22, wM_pai (by omega)]
          refine g_aload_n X dX5_play_110 1 rfl rfl ?_
          refine g_getr X 0 (by omega) 8 (by decide) ku_X5 kv_X5 kf_X5_25 rfl lM_o_played dX5_play_111 ?_
          refine g_bipush X (v := 6) dX5_play_114 (by decide) ?_
          refine g_iload_n X dX5_play_116 2 rfl rfl ?_
          refine g_imul X dX5_play_117 ?_
          rw [show (6 : Int32) * nI z = nI (6 * z) from mulN 6 z]
          refine g_iload_n X dX5_play_118 3 rfl rfl ?_
          refine g_iadd X dX5_play_119 ?_
          rw [nI_add]
          refine g_dup2 X dX5_play_120 rfl rfl ?_
          refine g_ialdN X 6 (6 * z + t) (by omega) lM_played (by omega) (by decide) dX5_play_121 ?_
          rw [rM_ply (by omega) (by omega)]
          rw [up2_k (by omega), up2_k (by omega)]
          refine g_iconst X (v := 1) dX5_play_122 (by decide) ?_
          refine g_iadd X dX5_play_123 ?_
          refine g_iastN X 6 (6 * z + t) (by omega) lM_played (by omega) (by decide) dX5_play_124 (fun ρ_23 eρ_23 => ?_)
          rw [eρ_23, wM_ply (by omega) (by omega)]
          refine g_aload_n X dX5_play_125 1 rfl rfl ?_
          refine g_iload_n X dX5_play_126 3 rfl rfl ?_
          refine g_aload_n X dX5_play_127 1 rfl rfl ?_
          refine g_getr X 0 (by omega) 12 (by decide) ku_X5 kv_X5 kf_X5_38 rfl lM_o_s dX5_play_128 ?_
          refine g_mcallVv X 0 (c_X5_sing l D cy ad _ _ _ t 1 (by omega) (Or.inl rfl) (tunI_up (tunI_up (tunI_up (hTu t (by omega)) (by omega) (by omega)) (by omega) (by omega)) (by omega) (by omega)) (fun i hi => by rw [up2_k (by omega), up2_k (by omega), up2_k (by omega)]; exact (hPi i hi).1)) kl_X5_107 ⟨rfl, rfl, Nat.le_of_ble_eq_true rfl, Nat.le_of_ble_eq_true rfl⟩ (by omega) lM_O kv_X5 rfl rfl (Nat.le_of_ble_eq_true rfl) dX5_play_131 ⟨Nat.le_of_ble_eq_true rfl, Nat.le_of_ble_eq_true rfl⟩ (fun ρ_24 h_26 => ?_)
          rw [h_26]
          refine g_iload_n X dX5_play_134 0 rfl rfl ?_
          exact g_iret X hr hlk (by omega) (by omega) dX5_play_135 (by have hF : plaF ρ (nI z) (nI t) = (0, pyN ρ z t, plyR ρ z t) := (by unfold plaF; rw [if_pos ibz, if_pos ibt, if_neg (by rw [ext, hL]; exact cL), if_neg (by rw [exz]; exact cP), exz, ext]); rw [hF]; exact ⟨_, rfl, fun _ => rfl⟩)
        · skip
          have cP := c_17
          refine g_bipush X (v := 10) dX5_play_50 (by decide) ?_
          refine g_aload_n X dX5_play_52 0 rfl rfl ?_
          refine g_geti X 0 (by omega) 10 (by decide) ku_X5 kv_X5 kf_X5_31 rfl lM_o_coins dX5_play_53 ?_
          rw [rM_coi]
          refine g_mmin X km_X5_48 kt_mmin ki_math kc_mmin ⟨Nat.le_of_ble_eq_true rfl, Nat.le_of_ble_eq_true rfl, by omega, by omega⟩ dX5_play_56 ?_
          refine g_istore_n X [(3, .int _), (0, .ref _), (1, .int _), (2, .int _)] dX5_play_59 rfl (by decide) rfl ?_
          refine g_aload_n X dX5_play_60 1 rfl rfl ?_
          refine g_dup X dX5_play_61 rfl ?_
          refine g_geti X 0 (by omega) 10 (by decide) ku_X5 kv_X5 kf_X5_31 rfl lM_o_coins dX5_play_62 ?_
          rw [rM_coi]
          refine g_iload_n X dX5_play_65 0 rfl rfl ?_
          refine g_isub X dX5_play_66 ?_
          refine g_puti X 0 (by omega) 10 (by decide) ku_X5 kv_X5 kf_X5_31 rfl tyX5 tyX5_ok nmX5 rfl (by decide +kernel) lM_o_coins dX5_play_67 (fun ρ_27 eρ_27 => ?_)
          rw [eρ_27, wM_coi]
          refine g_aload_n X dX5_play_70 1 rfl rfl ?_
          refine g_dup X dX5_play_71 rfl ?_
          refine g_geti X 0 (by omega) 11 (by decide) ku_X5 kv_X5 kf_X5_101 rfl lM_o_fines dX5_play_72 ?_
          rw [rM_fin]
          rw [up2_j (by decide)]
          refine g_iload_n X dX5_play_75 0 rfl rfl ?_
          refine g_iadd X dX5_play_76 ?_
          refine g_puti X 0 (by omega) 11 (by decide) ku_X5 kv_X5 kf_X5_101 rfl tyX5 tyX5_ok nmX5 rfl (by decide +kernel) lM_o_fines dX5_play_77 (fun ρ_28 eρ_28 => ?_)
          rw [eρ_28, wM_fin]
          refine g_iload_n X dX5_play_80 0 rfl rfl ?_
          refine g_ineg X dX5_play_81 ?_
          exact g_iret X hr hlk (by omega) (by omega) dX5_play_82 (by have hF : plaF ρ (nI z) (nI t) = (0, -mnI 10 (ρ 0 8), finR ρ) := (by unfold plaF; rw [if_pos ibz, if_pos ibt, if_neg (by rw [ext, hL]; exact cL), if_pos (by rw [exz]; exact cP)]); rw [hF]; exact ⟨_, rfl, fun _ => rfl⟩)
      · skip
        have cL := c_13
        refine g_aload_n X dX5_play_36 0 rfl rfl ?_
        refine g_iconst X (v := 2) dX5_play_37 (by decide) ?_
        refine g_mcallVi X 0 (c_X5_no l D cy ad _ _ _ _) kl_X5_67 ⟨rfl, rfl, Nat.le_of_ble_eq_true rfl, Nat.le_of_ble_eq_true rfl⟩ (by omega) lM_O kv_X5 rfl rfl (Nat.le_of_ble_eq_true rfl) dX5_play_38 ⟨Nat.le_of_ble_eq_true rfl, Nat.le_of_ble_eq_true rfl⟩ (fun r_30 ρ_29 h_31 => ?_)
        obtain ⟨er_30, e9⟩ := h_31
        rw [e9, er_30]
        exact g_iret X hr hlk (by omega) (by omega) dX5_play_41 (by have hF : plaF ρ (nI z) (nI t) = (2, 0, ρ) := (by unfold plaF; rw [if_pos ibz, if_pos ibt, if_pos (by rw [ext, hL]; exact cL)]); rw [hF]; exact ⟨_, rfl, fun _ => rfl⟩)
    · skip
      have nb := b10_f c_12
      refine g_aload_n X dX5_play_21 0 rfl rfl ?_
      refine g_iconst X (v := 1) dX5_play_22 (by decide) ?_
      refine g_mcallVi X 0 (c_X5_no l D cy ad _ _ _ _) kl_X5_67 ⟨rfl, rfl, Nat.le_of_ble_eq_true rfl, Nat.le_of_ble_eq_true rfl⟩ (by omega) lM_O kv_X5 rfl rfl (Nat.le_of_ble_eq_true rfl) dX5_play_23 ⟨Nat.le_of_ble_eq_true rfl, Nat.le_of_ble_eq_true rfl⟩ (fun r_33 ρ_32 h_34 => ?_)
      obtain ⟨er_33, e9⟩ := h_34
      rw [e9, er_33]
      exact g_iret X hr hlk (by omega) (by omega) dX5_play_26 (by have hF : plaF ρ (nI z) y = (1, 0, ρ) := (by unfold plaF; rw [if_pos ibz, if_neg nb]); rw [hF]; exact ⟨_, rfl, fun _ => rfl⟩)

set_option maxHeartbeats 1000000 in
set_option maxRecDepth 100000 in
theorem c_X5_tune (l : Launch) (D : va_G) (cy : Nat → ClassId) (ad : Nat → Nat) (ρ : Nat → Nat → Int32) (th a : Int32) (N T S d : Nat) (hI : Inv ρ N T S d) (x y : Int32) : gMI l yX5_tune cX5_tune 3 (some .int) { frames := 2, cells := 0, slots := 0, locals := 42 } D cy 18 ad (cM ad cy) [.ref (ad 0), .int x, .int y] (rM ρ th a) (fun r μ1 => ∃ a9 : Int32, μ1 = rM (tunF ρ x y).2.2 (nI (tunF ρ x y).1) a9 ∧ ((tunF ρ x y).1 = 0 → r = (tunF ρ x y).2.1)) 0 0 := by
  refine gMI_of (ls := [(0, .ref (ad 0)), (1, .int x), (2, .int y)]) RX5 rfl (by decide +kernel) (Nat.le_of_ble_eq_true rfl) rfl ?_
  intro p e s m args below meth c A X hr hlk hnm
  obtain ⟨hT, hT6, hS, hS8, hd, hdN, hN, hTu, hSt, hPi, hZ, hHd⟩ := id hI
  have hwd : wdF ρ = nI (d % 7) := by unfold wdF; rw [hd, nI_clamp (by omega)]
  refine g_aload_n X dX5_tune_0 0 rfl rfl ?_
  refine g_iconst X (v := 0) dX5_tune_1 (by decide) ?_
  refine g_puti X 0 (by omega) 0 (by decide) ku_X5 kv_X5 kf_X5_45 rfl tyX5 tyX5_ok nmX5 rfl (by decide +kernel) lM_o_thrown dX5_tune_2 (fun ρ_1 eρ_1 => ?_)
  rw [eρ_1, wM_thr]
  refine g_iload_n X dX5_tune_5 1 rfl rfl ?_
  refine g_mcallSi X (c_X5_isPipe l D cy ad _ _ _ _) kl_X5_75 ⟨rfl, rfl, Nat.le_of_ble_eq_true rfl, Nat.le_of_ble_eq_true rfl⟩ rfl rfl (Nat.le_of_ble_eq_true rfl) dX5_tune_6 ⟨Nat.le_of_ble_eq_true rfl, Nat.le_of_ble_eq_true rfl⟩ (fun r_3 ρ_2 h_4 => ?_)
  obtain ⟨er_3, e9⟩ := h_4
  rw [e9, er_3]
  clear e9
  refine g_if_ne X 18 dX5_tune_9 (by decide) (fun c_5 => ?_) (fun c_5 => ?_)
  · skip
    have ibi := b10_t c_5
    obtain ⟨i, hi, rfl⟩ := inb_N (T := 12) rfl (by omega) ibi
    have exi : ix (nI i) = i := nI_clamp (by omega)
    refine g_iload_n X dX5_tune_18 2 rfl rfl ?_
    refine g_bipush X (v := -120) dX5_tune_19 (by decide) ?_
    refine g_bipush X (v := 120) dX5_tune_21 (by decide) ?_
    refine g_mcallSi X (c_X5_isIn l D cy ad _ _ _ _ _ _) kl_X5_60 ⟨rfl, rfl, Nat.le_of_ble_eq_true rfl, Nat.le_of_ble_eq_true rfl⟩ rfl rfl (Nat.le_of_ble_eq_true rfl) dX5_tune_23 ⟨Nat.le_of_ble_eq_true rfl, Nat.le_of_ble_eq_true rfl⟩ (fun r_7 ρ_6 h_8 => ?_)
    obtain ⟨er_7, e9⟩ := h_8
    rw [e9, er_7]
    clear e9
    rw [show isI y (-120) 120 = (if ¬ y < -120 ∧ y ≤ 120 then 1 else 0) from rfl]
    refine g_if_ne X 35 dX5_tune_26 (by decide) (fun c_9 => ?_) (fun c_9 => ?_)
    · skip
      have iby := b10_t c_9
      refine g_aload_n X dX5_tune_35 0 rfl rfl ?_
      refine g_getr X 0 (by omega) 12 (by decide) ku_X5 kv_X5 kf_X5_38 rfl lM_o_s dX5_tune_36 ?_
      refine g_getrN X (1 + 7) (by omega) 2 (by decide) ku_X4 kv_X4 kn_X5_110 rfl (lM_f_off (isQ7 (Or.inl rfl))) dX5_tune_39 ?_
      refine g_iload_n X dX5_tune_42 1 rfl rfl ?_
      refine g_aload_n X dX5_tune_43 0 rfl rfl ?_
      refine g_getr X 0 (by omega) 12 (by decide) ku_X5 kv_X5 kf_X5_38 rfl lM_o_s dX5_tune_44 ?_
      refine g_getrN X (1 + 7) (by omega) 2 (by decide) ku_X4 kv_X4 kn_X5_110 rfl (lM_f_off (isQ7 (Or.inl rfl))) dX5_tune_47 ?_
      refine g_iload_n X dX5_tune_50 1 rfl rfl ?_
      refine g_ialdN X ((1 + 7) + 2) i (by omega) (lM_off (isQ7 (Or.inl rfl))) (by omega) (by decide) dX5_tune_51 ?_
      rw [rM_o (Or.inl rfl) (by omega)]
      refine g_iload_n X dX5_tune_52 2 rfl rfl ?_
      refine g_iadd X dX5_tune_53 ?_
      refine g_mcallSi X (c_X5_held l D cy ad _ _ _ _) kl_X5_113 ⟨rfl, rfl, Nat.le_of_ble_eq_true rfl, Nat.le_of_ble_eq_true rfl⟩ rfl rfl (Nat.le_of_ble_eq_true rfl) dX5_tune_54 ⟨Nat.le_of_ble_eq_true rfl, Nat.le_of_ble_eq_true rfl⟩ (fun r_11 ρ_10 h_12 => ?_)
      obtain ⟨er_11, e9⟩ := h_12
      rw [e9, er_11]
      clear e9
      refine g_iastN X ((1 + 7) + 2) i (by omega) (lM_off (isQ7 (Or.inl rfl))) (by omega) (by decide) dX5_tune_57 (fun ρ_13 eρ_13 => ?_)
      rw [eρ_13, wM_pip (m := 2) (Or.inl rfl) (by omega) (by omega)]
      refine g_aload_n X dX5_tune_58 0 rfl rfl ?_
      refine g_getr X 0 (by omega) 12 (by decide) ku_X5 kv_X5 kf_X5_38 rfl lM_o_s dX5_tune_59 ?_
      refine g_getrN X (1 + 7) (by omega) 2 (by decide) ku_X4 kv_X4 kn_X5_110 rfl (lM_f_off (isQ7 (Or.inl rfl))) dX5_tune_62 ?_
      refine g_iload_n X dX5_tune_65 1 rfl rfl ?_
      refine g_ialdN X ((1 + 7) + 2) i (by omega) (lM_off (isQ7 (Or.inl rfl))) (by omega) (by decide) dX5_tune_66 ?_
      rw [rM_o (Or.inl rfl) (by omega)]
      rw [up2_s]
      exact g_iret X hr hlk (by omega) (by omega) dX5_tune_67 (by have hF : tunF ρ (nI i) y = (0, hdd (ρ 3 i + y), up2 ρ 3 i (hdd (ρ 3 i + y))) := (by unfold tunF; rw [if_pos ibi, if_pos iby, exi]); rw [hF]; exact ⟨_, rfl, fun _ => rfl⟩)
    · skip
      have nb := b10_f c_9
      refine g_aload_n X dX5_tune_29 0 rfl rfl ?_
      refine g_iconst X (v := 2) dX5_tune_30 (by decide) ?_
      refine g_mcallVi X 0 (c_X5_no l D cy ad _ _ _ _) kl_X5_67 ⟨rfl, rfl, Nat.le_of_ble_eq_true rfl, Nat.le_of_ble_eq_true rfl⟩ (by omega) lM_O kv_X5 rfl rfl (Nat.le_of_ble_eq_true rfl) dX5_tune_31 ⟨Nat.le_of_ble_eq_true rfl, Nat.le_of_ble_eq_true rfl⟩ (fun r_15 ρ_14 h_16 => ?_)
      obtain ⟨er_15, e9⟩ := h_16
      rw [e9, er_15]
      exact g_iret X hr hlk (by omega) (by omega) dX5_tune_34 (by have hF : tunF ρ (nI i) y = (2, 0, ρ) := (by unfold tunF; rw [if_pos ibi, if_neg nb]); rw [hF]; exact ⟨_, rfl, fun _ => rfl⟩)
  · skip
    have nb := b10_f c_5
    refine g_aload_n X dX5_tune_12 0 rfl rfl ?_
    refine g_iconst X (v := 1) dX5_tune_13 (by decide) ?_
    refine g_mcallVi X 0 (c_X5_no l D cy ad _ _ _ _) kl_X5_67 ⟨rfl, rfl, Nat.le_of_ble_eq_true rfl, Nat.le_of_ble_eq_true rfl⟩ (by omega) lM_O kv_X5 rfl rfl (Nat.le_of_ble_eq_true rfl) dX5_tune_14 ⟨Nat.le_of_ble_eq_true rfl, Nat.le_of_ble_eq_true rfl⟩ (fun r_18 ρ_17 h_19 => ?_)
    obtain ⟨er_18, e9⟩ := h_19
    rw [e9, er_18]
    exact g_iret X hr hlk (by omega) (by omega) dX5_tune_17 (by have hF : tunF ρ x y = (1, 0, ρ) := (by unfold tunF; rw [if_neg nb]); rw [hF]; exact ⟨_, rfl, fun _ => rfl⟩)

set_option maxHeartbeats 1000000 in
set_option maxRecDepth 100000 in
theorem c_X5_felt (l : Launch) (D : va_G) (cy : Nat → ClassId) (ad : Nat → Nat) (ρ : Nat → Nat → Int32) (th a : Int32) (N T S d : Nat) (hI : Inv ρ N T S d) (x : Int32) : gMI l yX5_felt cX5_felt 3 (some .int) { frames := 2, cells := 0, slots := 0, locals := 42 } D cy 18 ad (cM ad cy) [.ref (ad 0), .int x] (rM ρ th a) (fun r μ1 => ∃ a9 : Int32, μ1 = rM (felF ρ x).2.2 (nI (felF ρ x).1) a9 ∧ ((felF ρ x).1 = 0 → r = (felF ρ x).2.1)) 0 0 := by
  refine gMI_of (ls := [(0, .ref (ad 0)), (1, .int x)]) RX5 rfl (by decide +kernel) (Nat.le_of_ble_eq_true rfl) rfl ?_
  intro p e s m args below meth c A X hr hlk hnm
  obtain ⟨hT, hT6, hS, hS8, hd, hdN, hN, hTu, hSt, hPi, hZ, hHd⟩ := id hI
  have hwd : wdF ρ = nI (d % 7) := by unfold wdF; rw [hd, nI_clamp (by omega)]
  refine g_aload_n X dX5_felt_0 0 rfl rfl ?_
  refine g_iconst X (v := 0) dX5_felt_1 (by decide) ?_
  refine g_puti X 0 (by omega) 0 (by decide) ku_X5 kv_X5 kf_X5_45 rfl tyX5 tyX5_ok nmX5 rfl (by decide +kernel) lM_o_thrown dX5_felt_2 (fun ρ_1 eρ_1 => ?_)
  rw [eρ_1, wM_thr]
  refine g_iload_n X dX5_felt_5 1 rfl rfl ?_
  refine g_mcallSi X (c_X5_isPipe l D cy ad _ _ _ _) kl_X5_75 ⟨rfl, rfl, Nat.le_of_ble_eq_true rfl, Nat.le_of_ble_eq_true rfl⟩ rfl rfl (Nat.le_of_ble_eq_true rfl) dX5_felt_6 ⟨Nat.le_of_ble_eq_true rfl, Nat.le_of_ble_eq_true rfl⟩ (fun r_3 ρ_2 h_4 => ?_)
  obtain ⟨er_3, e9⟩ := h_4
  rw [e9, er_3]
  clear e9
  refine g_if_ne X 18 dX5_felt_9 (by decide) (fun c_5 => ?_) (fun c_5 => ?_)
  · skip
    have ibi := b10_t c_5
    obtain ⟨i, hi, rfl⟩ := inb_N (T := 12) rfl (by omega) ibi
    have exi : ix (nI i) = i := nI_clamp (by omega)
    refine g_aload_n X dX5_felt_18 0 rfl rfl ?_
    refine g_geti X 0 (by omega) 10 (by decide) ku_X5 kv_X5 kf_X5_31 rfl lM_o_coins dX5_felt_19 ?_
    rw [rM_coi]
    refine g_iconst X (v := 4) dX5_felt_22 (by decide) ?_
    refine g_icmp_ge X 32 dX5_felt_23 (by decide) (fun c_6 => ?_) (fun c_6 => ?_)
    · skip
      have cC := c_6
      refine g_aload_n X dX5_felt_32 0 rfl rfl ?_
      refine g_dup X dX5_felt_33 rfl ?_
      refine g_geti X 0 (by omega) 10 (by decide) ku_X5 kv_X5 kf_X5_31 rfl lM_o_coins dX5_felt_34 ?_
      rw [rM_coi]
      refine g_iconst X (v := 4) dX5_felt_37 (by decide) ?_
      refine g_isub X dX5_felt_38 ?_
      refine g_puti X 0 (by omega) 10 (by decide) ku_X5 kv_X5 kf_X5_31 rfl tyX5 tyX5_ok nmX5 rfl (by decide +kernel) lM_o_coins dX5_felt_39 (fun ρ_7 eρ_7 => ?_)
      rw [eρ_7, wM_coi]
      refine g_aload_n X dX5_felt_42 0 rfl rfl ?_
      refine g_getr X 0 (by omega) 12 (by decide) ku_X5 kv_X5 kf_X5_38 rfl lM_o_s dX5_felt_43 ?_
      refine g_getrN X (1 + 7) (by omega) 1 (by decide) ku_X4 kv_X4 kn_X5_116 rfl (lM_f_worn (isQ7 (Or.inl rfl))) dX5_felt_46 ?_
      refine g_iload_n X dX5_felt_49 1 rfl rfl ?_
      refine g_ialdN X ((1 + 7) + 1) i (by omega) (lM_worn (isQ7 (Or.inl rfl))) (by omega) (by decide) dX5_felt_50 ?_
      rw [rM_w (Or.inl rfl) (by omega)]
      rw [up2_k (by omega)]
      refine g_istore_n X [(2, .int _), (0, .ref _), (1, .int _)] dX5_felt_51 rfl (by decide) rfl ?_
      refine g_aload_n X dX5_felt_52 1 rfl rfl ?_
      refine g_getr X 0 (by omega) 12 (by decide) ku_X5 kv_X5 kf_X5_38 rfl lM_o_s dX5_felt_53 ?_
      refine g_getrN X (1 + 7) (by omega) 1 (by decide) ku_X4 kv_X4 kn_X5_116 rfl (lM_f_worn (isQ7 (Or.inl rfl))) dX5_felt_56 ?_
      refine g_iload_n X dX5_felt_59 2 rfl rfl ?_
      refine g_iconst X (v := 0) dX5_felt_60 (by decide) ?_
      refine g_iastN X ((1 + 7) + 1) i (by omega) (lM_worn (isQ7 (Or.inl rfl))) (by omega) (by decide) dX5_felt_61 (fun ρ_8 eρ_8 => ?_)
      rw [eρ_8, wM_pip (m := 1) (Or.inl rfl) (by omega) (by omega)]
      refine g_iload_n X dX5_felt_62 0 rfl rfl ?_
      exact g_iret X hr hlk (by omega) (by omega) dX5_felt_63 (by have hF : felF ρ (nI i) = (0, ρ 2 i, up2 (up2 ρ 0 8 (ρ 0 8 - 4)) 2 i 0) := (by unfold felF; rw [if_pos ibi, if_neg (Int32.not_lt.mpr cC), exi]); rw [hF]; exact ⟨_, rfl, fun _ => rfl⟩)
    · skip
      have cC := c_6
      refine g_aload_n X dX5_felt_26 0 rfl rfl ?_
      refine g_iconst X (v := 2) dX5_felt_27 (by decide) ?_
      refine g_mcallVi X 0 (c_X5_no l D cy ad _ _ _ _) kl_X5_67 ⟨rfl, rfl, Nat.le_of_ble_eq_true rfl, Nat.le_of_ble_eq_true rfl⟩ (by omega) lM_O kv_X5 rfl rfl (Nat.le_of_ble_eq_true rfl) dX5_felt_28 ⟨Nat.le_of_ble_eq_true rfl, Nat.le_of_ble_eq_true rfl⟩ (fun r_10 ρ_9 h_11 => ?_)
      obtain ⟨er_10, e9⟩ := h_11
      rw [e9, er_10]
      exact g_iret X hr hlk (by omega) (by omega) dX5_felt_31 (by have hF : felF ρ (nI i) = (2, 0, ρ) := (by unfold felF; rw [if_pos ibi, if_pos (Int32.not_le.mp cC)]); rw [hF]; exact ⟨_, rfl, fun _ => rfl⟩)
  · skip
    have nb := b10_f c_5
    refine g_aload_n X dX5_felt_12 0 rfl rfl ?_
    refine g_iconst X (v := 1) dX5_felt_13 (by decide) ?_
    refine g_mcallVi X 0 (c_X5_no l D cy ad _ _ _ _) kl_X5_67 ⟨rfl, rfl, Nat.le_of_ble_eq_true rfl, Nat.le_of_ble_eq_true rfl⟩ (by omega) lM_O kv_X5 rfl rfl (Nat.le_of_ble_eq_true rfl) dX5_felt_14 ⟨Nat.le_of_ble_eq_true rfl, Nat.le_of_ble_eq_true rfl⟩ (fun r_13 ρ_12 h_14 => ?_)
    obtain ⟨er_13, e9⟩ := h_14
    rw [e9, er_13]
    exact g_iret X hr hlk (by omega) (by omega) dX5_felt_17 (by have hF : felF ρ x = (1, 0, ρ) := (by unfold felF; rw [if_neg nb]); rw [hF]; exact ⟨_, rfl, fun _ => rfl⟩)

set_option maxHeartbeats 1000000 in
set_option maxRecDepth 100000 in
theorem c_X5_chase (l : Launch) (D : va_G) (cy : Nat → ClassId) (ad : Nat → Nat) (ρ : Nat → Nat → Int32) (th a : Int32) (N T S d : Nat) (hI : Inv ρ N T S d) : gMI l yX5_chase cX5_chase 3 (some .int) { frames := 1, cells := 0, slots := 0, locals := 25 } D cy 18 ad (cM ad cy) [.ref (ad 0)] (rM ρ th a) (fun r μ1 => ∃ a9 : Int32, μ1 = rM (clrR ρ 1 12) 0 a9 ∧ r = crc ρ 1) 0 0 := by
  refine gMI_of (ls := [(0, .ref (ad 0))]) RX5 rfl (by decide +kernel) (Nat.le_of_ble_eq_true rfl) rfl ?_
  intro p e s m args below meth c A X hr hlk hnm
  obtain ⟨hT, hT6, hS, hS8, hd, hdN, hN, hTu, hSt, hPi, hZ, hHd⟩ := id hI
  have hwd : wdF ρ = nI (d % 7) := by unfold wdF; rw [hd, nI_clamp (by omega)]
  refine g_aload_n X dX5_chase_0 0 rfl rfl ?_
  refine g_iconst X (v := 0) dX5_chase_1 (by decide) ?_
  refine g_puti X 0 (by omega) 0 (by decide) ku_X5 kv_X5 kf_X5_45 rfl tyX5 tyX5_ok nmX5 rfl (by decide +kernel) lM_o_thrown dX5_chase_2 (fun ρ_1 eρ_1 => ?_)
  rw [eρ_1, wM_thr]
  refine g_aload_n X dX5_chase_5 0 rfl rfl ?_
  refine g_getr X 0 (by omega) 12 (by decide) ku_X5 kv_X5 kf_X5_38 rfl lM_o_s dX5_chase_6 ?_
  refine g_mcallVi X (1 + 7) (c_X4_crickets l D cy ad _ _ _ 1 (Or.inl rfl) (fun i hi => (hPi i hi).2.2.1)) kl_X5_119 ⟨rfl, rfl, Nat.le_of_ble_eq_true rfl, Nat.le_of_ble_eq_true rfl⟩ (by omega) (lM_P (isQ7 (Or.inl rfl))) kv_X4 rfl rfl (Nat.le_of_ble_eq_true rfl) dX5_chase_9 ⟨Nat.le_of_ble_eq_true rfl, Nat.le_of_ble_eq_true rfl⟩ (fun r_3 ρ_2 h_4 => ?_)
  obtain ⟨er_3, e9⟩ := h_4
  rw [e9, er_3]
  clear e9
  refine g_istore_n X [(1, .int _), (0, .ref _)] dX5_chase_12 rfl (by decide) rfl ?_
  refine g_iconst X (v := 0) dX5_chase_13 (by decide) ?_
  refine g_istore_n X [(2, .int _), (1, .int _), (0, .ref _)] dX5_chase_14 rfl (by decide) rfl ?_
  refine g_ls (ls' := [(0, .ref _), (1, .int _), (2, .int _)]) [2, 1, 0] rfl ?_
  refine g_loop (fun _ => True) (fun i => rM (clrR ρ 1 i) 0 a) (fun i => [(0, .ref (ad 0)), (1, .int (crc ρ 1)), (2, .int (nI i))]) (fun _ => (0 + 0)) (fun _ => (0 + 0)) 12 0 trivial (by omega) rfl (by rw [show clrR ρ 1 0 = ρ by funext k j; simp [clrR]]) rfl rfl (fun i h0i hi hIi ihi => ?_)
  obtain ⟨ρa, eρa⟩ : ∃ ρz, ρz = clrR ρ 1 i := ⟨_, rfl⟩
  rw [← eρa]
  refine g_iload_n X dX5_chase_15 2 rfl rfl ?_
  refine g_bipush X (v := 12) dX5_chase_16 (by decide) ?_
  refine g_icmp_geN X i 12 37 (by omega) (by omega) dX5_chase_18 (by decide) (fun c_5 => ?_) (fun c_5 => ?_)
  · skip
    refine g_iload_n X dX5_chase_37 1 rfl rfl ?_
    exact g_iret X hr hlk (by omega) (by omega) dX5_chase_38 (by subst_vars; rw [show i = 12 by omega]; exact ⟨_, rfl, rfl⟩)
  · skip
    refine g_aload_n X dX5_chase_21 0 rfl rfl ?_
    refine g_getr X 0 (by omega) 12 (by decide) ku_X5 kv_X5 kf_X5_38 rfl lM_o_s dX5_chase_22 ?_
    refine g_getrN X (1 + 7) (by omega) 3 (by decide) ku_X4 kv_X4 kn_X5_123 rfl (lM_f_cri (isQ7 (Or.inl rfl))) dX5_chase_25 ?_
    refine g_iload_n X dX5_chase_28 2 rfl rfl ?_
    refine g_iconst X (v := 0) dX5_chase_29 (by decide) ?_
    refine g_iastN X ((1 + 7) + 3) i (by omega) (lM_cri (isQ7 (Or.inl rfl))) (by omega) (by decide) dX5_chase_30 (fun ρ_6 eρ_6 => ?_)
    rw [eρ_6, wM_pip (m := 3) (Or.inl rfl) (by omega) (by omega)]
    refine g_iincN X i 2 [(2, .int _), (0, .ref _), (1, .int _)] 2 dX5_chase_31 rfl (by decide) rfl ?_
    refine g_goto X 15 dX5_chase_34 (by decide) ?_
    refine g_ls (ls' := [(0, .ref _), (1, .int _), (2, .int _)]) [1, 2, 0] rfl ?_
    exact g_eqv (ihi (by omega) trivial) (rfl) (by subst_vars; congr 1; funext k j; simp only [up2_e, clrR]; grind) rfl rfl

set_option maxHeartbeats 1000000 in
set_option maxRecDepth 100000 in
theorem c_X5_pipeTold (l : Launch) (D : va_G) (cy : Nat → ClassId) (ad : Nat → Nat) (ρ : Nat → Nat → Int32) (th a : Int32) (i w : Nat) (hi : i < 12) (hw : w < 5) (hP1 : pipI ρ 1 i) : gMI l yX5_pipeTold cX5_pipeTold 3 (some .int) { frames := 2, cells := 0, slots := 0, locals := 42 } D cy 18 ad (cM ad cy) [.ref (ad 0), .int (nI i), .int (nI w)] (rM ρ th a) (fun r μ1 => r = tellF ρ 1 i w ∧ μ1 = rM ρ th a) 0 0 := by
  refine gMI_of (ls := [(0, .ref (ad 0)), (1, .int (nI i)), (2, .int (nI w))]) RX5 rfl (by decide +kernel) (Nat.le_of_ble_eq_true rfl) rfl ?_
  intro p e s m args below meth c A X hr hlk hnm
  refine g_iload_n X dX5_pipeTold_0 2 rfl rfl ?_
  refine g_if_ne X 16 dX5_pipeTold_1 (by decide) (fun c_1 => ?_) (fun c_1 => ?_)
  · skip
    have w0 : ¬ w = 0 := fun q => c_1 (by rw [q]; rfl)
    refine g_iload_n X dX5_pipeTold_16 2 rfl rfl ?_
    refine g_iconst X (v := 1) dX5_pipeTold_17 (by decide) ?_
    refine g_icmp_neN X w 1 33 (by omega) (by omega) dX5_pipeTold_18 (by decide) (fun c_2 => ?_) (fun c_2 => ?_)
    · skip
      refine g_iload_n X dX5_pipeTold_33 2 rfl rfl ?_
      refine g_iconst X (v := 2) dX5_pipeTold_34 (by decide) ?_
      refine g_icmp_neN X w 2 50 (by omega) (by omega) dX5_pipeTold_35 (by decide) (fun c_3 => ?_) (fun c_3 => ?_)
      · skip
        refine g_iload_n X dX5_pipeTold_50 2 rfl rfl ?_
        refine g_iconst X (v := 3) dX5_pipeTold_51 (by decide) ?_
        refine g_icmp_neN X w 3 66 (by omega) (by omega) dX5_pipeTold_52 (by decide) (fun c_4 => ?_) (fun c_4 => ?_)
        · skip
          refine g_aload_n X dX5_pipeTold_66 0 rfl rfl ?_
          refine g_getr X 0 (by omega) 12 (by decide) ku_X5 kv_X5 kf_X5_38 rfl lM_o_s dX5_pipeTold_67 ?_
          refine g_getrN X (1 + 7) (by omega) 4 (by decide) ku_X4 kv_X4 kn_X5_126 rfl (lM_f_sang (isQ7 (Or.inl rfl))) dX5_pipeTold_70 ?_
          refine g_iload_n X dX5_pipeTold_73 1 rfl rfl ?_
          refine g_ialdN X ((1 + 7) + 4) i (by omega) (lM_sang (isQ7 (Or.inl rfl))) (by omega) (by decide) dX5_pipeTold_74 ?_
          rw [rM_s (Or.inl rfl) (by omega)]
          exact g_iret X hr hlk (by omega) (by omega) dX5_pipeTold_75 (⟨by unfold tellF; rw [if_neg (by omega), if_neg (by omega), if_neg (by omega), if_neg (by omega)]; rcases hP1.2.2.2 with q | q <;> rw [q] <;> rfl, rfl⟩)
        · skip
          refine g_aload_n X dX5_pipeTold_55 0 rfl rfl ?_
          refine g_getr X 0 (by omega) 12 (by decide) ku_X5 kv_X5 kf_X5_38 rfl lM_o_s dX5_pipeTold_56 ?_
          refine g_iload_n X dX5_pipeTold_59 1 rfl rfl ?_
          refine g_mcallVi X (1 + 7) (c_X4_harm l D cy ad _ _ _ 1 i (Or.inl rfl) (by omega) hP1.2.2.1) kl_X5_84 ⟨rfl, rfl, Nat.le_of_ble_eq_true rfl, Nat.le_of_ble_eq_true rfl⟩ (by omega) (lM_P (isQ7 (Or.inl rfl))) kv_X4 rfl rfl (Nat.le_of_ble_eq_true rfl) dX5_pipeTold_60 ⟨Nat.le_of_ble_eq_true rfl, Nat.le_of_ble_eq_true rfl⟩ (fun r_6 ρ_5 h_7 => ?_)
          obtain ⟨er_6, e9⟩ := h_7
          rw [e9, er_6]
          clear e9
          refine g_goto X 75 dX5_pipeTold_63 (by decide) ?_
          exact g_iret X hr hlk (by omega) (by omega) dX5_pipeTold_75 (⟨by unfold tellF; rw [if_neg (by omega), if_neg (by omega), if_neg (by omega), if_pos (by omega)], rfl⟩)
      · skip
        refine g_aload_n X dX5_pipeTold_38 0 rfl rfl ?_
        refine g_getr X 0 (by omega) 12 (by decide) ku_X5 kv_X5 kf_X5_38 rfl lM_o_s dX5_pipeTold_39 ?_
        refine g_getrN X (1 + 7) (by omega) 3 (by decide) ku_X4 kv_X4 kn_X5_123 rfl (lM_f_cri (isQ7 (Or.inl rfl))) dX5_pipeTold_42 ?_
        refine g_iload_n X dX5_pipeTold_45 1 rfl rfl ?_
        refine g_ialdN X ((1 + 7) + 3) i (by omega) (lM_cri (isQ7 (Or.inl rfl))) (by omega) (by decide) dX5_pipeTold_46 ?_
        rw [rM_c (Or.inl rfl) (by omega)]
        refine g_goto X 75 dX5_pipeTold_47 (by decide) ?_
        exact g_iret X hr hlk (by omega) (by omega) dX5_pipeTold_75 (⟨by unfold tellF; rw [if_neg (by omega), if_neg (by omega), if_pos (by omega)]; rcases hP1.2.2.1 with q | q <;> rw [q] <;> rfl, rfl⟩)
    · skip
      refine g_aload_n X dX5_pipeTold_21 0 rfl rfl ?_
      refine g_getr X 0 (by omega) 12 (by decide) ku_X5 kv_X5 kf_X5_38 rfl lM_o_s dX5_pipeTold_22 ?_
      refine g_getrN X (1 + 7) (by omega) 2 (by decide) ku_X4 kv_X4 kn_X5_110 rfl (lM_f_off (isQ7 (Or.inl rfl))) dX5_pipeTold_25 ?_
      refine g_iload_n X dX5_pipeTold_28 1 rfl rfl ?_
      refine g_ialdN X ((1 + 7) + 2) i (by omega) (lM_off (isQ7 (Or.inl rfl))) (by omega) (by decide) dX5_pipeTold_29 ?_
      rw [rM_o (Or.inl rfl) (by omega)]
      refine g_goto X 75 dX5_pipeTold_30 (by decide) ?_
      exact g_iret X hr hlk (by omega) (by omega) dX5_pipeTold_75 (⟨by unfold tellF; rw [if_neg (by omega), if_pos (by omega)], rfl⟩)
  · skip
    have w0 : w = 0 := (nI_z (by omega)).mp c_1
    refine g_aload_n X dX5_pipeTold_4 0 rfl rfl ?_
    refine g_getr X 0 (by omega) 12 (by decide) ku_X5 kv_X5 kf_X5_38 rfl lM_o_s dX5_pipeTold_5 ?_
    refine g_getrN X (1 + 7) (by omega) 1 (by decide) ku_X4 kv_X4 kn_X5_116 rfl (lM_f_worn (isQ7 (Or.inl rfl))) dX5_pipeTold_8 ?_
    refine g_iload_n X dX5_pipeTold_11 1 rfl rfl ?_
    refine g_ialdN X ((1 + 7) + 1) i (by omega) (lM_worn (isQ7 (Or.inl rfl))) (by omega) (by decide) dX5_pipeTold_12 ?_
    rw [rM_w (Or.inl rfl) (by omega)]
    refine g_goto X 75 dX5_pipeTold_13 (by decide) ?_
    exact g_iret X hr hlk (by omega) (by omega) dX5_pipeTold_75 (⟨by unfold tellF; rw [if_pos (by omega)], rfl⟩)

set_option maxHeartbeats 1000000 in
set_option maxRecDepth 100000 in
theorem c_X5_pipe (l : Launch) (D : va_G) (cy : Nat → ClassId) (ad : Nat → Nat) (ρ : Nat → Nat → Int32) (th a : Int32) (N T S d : Nat) (hI : Inv ρ N T S d) (x y : Int32) : gMI l yX5_pipe cX5_pipe 3 (some .int) { frames := 3, cells := 0, slots := 0, locals := 64 } D cy 18 ad (cM ad cy) [.ref (ad 0), .int x, .int y] (rM ρ th a) (fun r μ1 => ∃ a9 : Int32, μ1 = rM (pipF ρ x y).2.2 (nI (pipF ρ x y).1) a9 ∧ ((pipF ρ x y).1 = 0 → r = (pipF ρ x y).2.1)) 0 0 := by
  refine gMI_of (ls := [(0, .ref (ad 0)), (1, .int x), (2, .int y)]) RX5 rfl (by decide +kernel) (Nat.le_of_ble_eq_true rfl) rfl ?_
  intro p e s m args below meth c A X hr hlk hnm
  obtain ⟨hT, hT6, hS, hS8, hd, hdN, hN, hTu, hSt, hPi, hZ, hHd⟩ := id hI
  have hwd : wdF ρ = nI (d % 7) := by unfold wdF; rw [hd, nI_clamp (by omega)]
  refine g_aload_n X dX5_pipe_0 0 rfl rfl ?_
  refine g_iconst X (v := 0) dX5_pipe_1 (by decide) ?_
  refine g_puti X 0 (by omega) 0 (by decide) ku_X5 kv_X5 kf_X5_45 rfl tyX5 tyX5_ok nmX5 rfl (by decide +kernel) lM_o_thrown dX5_pipe_2 (fun ρ_1 eρ_1 => ?_)
  rw [eρ_1, wM_thr]
  refine g_iload_n X dX5_pipe_5 1 rfl rfl ?_
  refine g_mcallSi X (c_X5_isPipe l D cy ad _ _ _ _) kl_X5_75 ⟨rfl, rfl, Nat.le_of_ble_eq_true rfl, Nat.le_of_ble_eq_true rfl⟩ rfl rfl (Nat.le_of_ble_eq_true rfl) dX5_pipe_6 ⟨Nat.le_of_ble_eq_true rfl, Nat.le_of_ble_eq_true rfl⟩ (fun r_3 ρ_2 h_4 => ?_)
  obtain ⟨er_3, e9⟩ := h_4
  rw [e9, er_3]
  clear e9
  refine g_if_eq X 30 dX5_pipe_9 (by decide) (fun c_5 => ?_) (fun c_5 => ?_)
  · skip
    have nb := b10_f c_5
    refine g_aload_n X dX5_pipe_30 0 rfl rfl ?_
    refine g_iconst X (v := 1) dX5_pipe_31 (by decide) ?_
    refine g_mcallVi X 0 (c_X5_no l D cy ad _ _ _ _) kl_X5_67 ⟨rfl, rfl, Nat.le_of_ble_eq_true rfl, Nat.le_of_ble_eq_true rfl⟩ (by omega) lM_O kv_X5 rfl rfl (Nat.le_of_ble_eq_true rfl) dX5_pipe_32 ⟨Nat.le_of_ble_eq_true rfl, Nat.le_of_ble_eq_true rfl⟩ (fun r_7 ρ_6 h_8 => ?_)
    obtain ⟨er_7, e9⟩ := h_8
    rw [e9, er_7]
    exact g_iret X hr hlk (by omega) (by omega) dX5_pipe_35 (by have hF : pipF ρ x y = (1, 0, ρ) := (by unfold pipF; rw [if_neg nb]); rw [hF]; exact ⟨_, rfl, fun _ => rfl⟩)
  · skip
    have ibi := b10_t c_5
    obtain ⟨i, hi, rfl⟩ := inb_N (T := 12) rfl (by omega) ibi
    have exi : ix (nI i) = i := nI_clamp (by omega)
    refine g_iload_n X dX5_pipe_12 2 rfl rfl ?_
    refine g_iconst X (v := 0) dX5_pipe_13 (by decide) ?_
    refine g_iconst X (v := 4) dX5_pipe_14 (by decide) ?_
    refine g_mcallSi X (c_X5_isIn l D cy ad _ _ _ _ _ _) kl_X5_60 ⟨rfl, rfl, Nat.le_of_ble_eq_true rfl, Nat.le_of_ble_eq_true rfl⟩ rfl rfl (Nat.le_of_ble_eq_true rfl) dX5_pipe_15 ⟨Nat.le_of_ble_eq_true rfl, Nat.le_of_ble_eq_true rfl⟩ (fun r_10 ρ_9 h_11 => ?_)
    obtain ⟨er_10, e9⟩ := h_11
    rw [e9, er_10]
    clear e9
    rw [isI_5]
    refine g_if_eq X 30 dX5_pipe_18 (by decide) (fun c_12 => ?_) (fun c_12 => ?_)
    · skip
      have nb := b10_f c_12
      refine g_aload_n X dX5_pipe_30 0 rfl rfl ?_
      refine g_iconst X (v := 1) dX5_pipe_31 (by decide) ?_
      refine g_mcallVi X 0 (c_X5_no l D cy ad _ _ _ _) kl_X5_67 ⟨rfl, rfl, Nat.le_of_ble_eq_true rfl, Nat.le_of_ble_eq_true rfl⟩ (by omega) lM_O kv_X5 rfl rfl (Nat.le_of_ble_eq_true rfl) dX5_pipe_32 ⟨Nat.le_of_ble_eq_true rfl, Nat.le_of_ble_eq_true rfl⟩ (fun r_14 ρ_13 h_15 => ?_)
      obtain ⟨er_14, e9⟩ := h_15
      rw [e9, er_14]
      exact g_iret X hr hlk (by omega) (by omega) dX5_pipe_35 (by have hF : pipF ρ (nI i) y = (1, 0, ρ) := (by unfold pipF; rw [if_pos ibi, if_neg nb]); rw [hF]; exact ⟨_, rfl, fun _ => rfl⟩)
    · skip
      have ibk := b10_t c_12
      obtain ⟨k, hk, rfl⟩ := inb_N (T := 5) rfl (by omega) ibk
      have exk : ix (nI k) = k := nI_clamp (by omega)
      refine g_aload_n X dX5_pipe_21 0 rfl rfl ?_
      refine g_iload_n X dX5_pipe_22 1 rfl rfl ?_
      refine g_iload_n X dX5_pipe_23 2 rfl rfl ?_
      refine g_mcallVi X 0 (c_X5_pipeTold l D cy ad _ _ _ i k (by omega) (by omega) (hPi i (by omega))) kl_X5_129 ⟨rfl, rfl, Nat.le_of_ble_eq_true rfl, Nat.le_of_ble_eq_true rfl⟩ (by omega) lM_O kv_X5 rfl rfl (Nat.le_of_ble_eq_true rfl) dX5_pipe_24 ⟨Nat.le_of_ble_eq_true rfl, Nat.le_of_ble_eq_true rfl⟩ (fun r_17 ρ_16 h_18 => ?_)
      obtain ⟨er_17, e9⟩ := h_18
      rw [e9, er_17]
      clear e9
      refine g_goto X 35 dX5_pipe_27 (by decide) ?_
      exact g_iret X hr hlk (by omega) (by omega) dX5_pipe_35 (by have hF : pipF ρ (nI i) (nI k) = (0, tellF ρ 1 i k, ρ) := (by unfold pipF; rw [if_pos ibi, if_pos ibk, exi, exk]); rw [hF]; exact ⟨_, rfl, fun _ => rfl⟩)

set_option maxHeartbeats 1000000 in
set_option maxRecDepth 100000 in
theorem c_X5_sound (l : Launch) (D : va_G) (cy : Nat → ClassId) (ad : Nat → Nat) (ρ : Nat → Nat → Int32) (th a : Int32) (N T S d : Nat) (hI : Inv ρ N T S d) (x : Int32) : gMI l yX5_sound cX5_sound 2 (some .int) { frames := 3, cells := 0, slots := 0, locals := 68 } D cy 18 ad (cM ad cy) [.ref (ad 0), .int x] (rM ρ th a) (fun r μ1 => ∃ a9 : Int32, μ1 = rM (souF ρ x).2.2 (nI (souF ρ x).1) a9 ∧ ((souF ρ x).1 = 0 → r = (souF ρ x).2.1)) 0 0 := by
  refine gMI_of (ls := [(0, .ref (ad 0)), (1, .int x)]) RX5 rfl (by decide +kernel) (Nat.le_of_ble_eq_true rfl) rfl ?_
  intro p e s m args below meth c A X hr hlk hnm
  obtain ⟨hT, hT6, hS, hS8, hd, hdN, hN, hTu, hSt, hPi, hZ, hHd⟩ := id hI
  have hwd : wdF ρ = nI (d % 7) := by unfold wdF; rw [hd, nI_clamp (by omega)]
  refine g_aload_n X dX5_sound_0 0 rfl rfl ?_
  refine g_iconst X (v := 0) dX5_sound_1 (by decide) ?_
  refine g_puti X 0 (by omega) 0 (by decide) ku_X5 kv_X5 kf_X5_45 rfl tyX5 tyX5_ok nmX5 rfl (by decide +kernel) lM_o_thrown dX5_sound_2 (fun ρ_1 eρ_1 => ?_)
  rw [eρ_1, wM_thr]
  refine g_aload_n X dX5_sound_5 0 rfl rfl ?_
  refine g_iload_n X dX5_sound_6 1 rfl rfl ?_
  refine g_mcallVi X 0 (c_X5_isTune l D cy ad _ _ _ _ T hT (by omega)) kl_X5_71 ⟨rfl, rfl, Nat.le_of_ble_eq_true rfl, Nat.le_of_ble_eq_true rfl⟩ (by omega) lM_O kv_X5 rfl rfl (Nat.le_of_ble_eq_true rfl) dX5_sound_7 ⟨Nat.le_of_ble_eq_true rfl, Nat.le_of_ble_eq_true rfl⟩ (fun r_3 ρ_2 h_4 => ?_)
  obtain ⟨er_3, e9⟩ := h_4
  rw [e9, er_3]
  clear e9
  refine g_if_eq X 26 dX5_sound_10 (by decide) (fun c_5 => ?_) (fun c_5 => ?_)
  · skip
    have nb := b10_f c_5
    refine g_aload_n X dX5_sound_26 0 rfl rfl ?_
    refine g_iconst X (v := 1) dX5_sound_27 (by decide) ?_
    refine g_mcallVi X 0 (c_X5_no l D cy ad _ _ _ _) kl_X5_67 ⟨rfl, rfl, Nat.le_of_ble_eq_true rfl, Nat.le_of_ble_eq_true rfl⟩ (by omega) lM_O kv_X5 rfl rfl (Nat.le_of_ble_eq_true rfl) dX5_sound_28 ⟨Nat.le_of_ble_eq_true rfl, Nat.le_of_ble_eq_true rfl⟩ (fun r_7 ρ_6 h_8 => ?_)
    obtain ⟨er_7, e9⟩ := h_8
    rw [e9, er_7]
    exact g_iret X hr hlk (by omega) (by omega) dX5_sound_31 (by have hF : souF ρ x = (1, 0, ρ) := (by unfold souF; rw [if_neg nb]); rw [hF]; exact ⟨_, rfl, fun _ => rfl⟩)
  · skip
    have ibt := b10_t c_5
    obtain ⟨t, ht, rfl⟩ := inb_N hT (by omega) ibt
    have ext : ix (nI t) = t := nI_clamp (by omega)
    refine g_aload_n X dX5_sound_13 0 rfl rfl ?_
    refine g_iload_n X dX5_sound_14 1 rfl rfl ?_
    refine g_aload_n X dX5_sound_15 0 rfl rfl ?_
    refine g_getr X 0 (by omega) 12 (by decide) ku_X5 kv_X5 kf_X5_38 rfl lM_o_s dX5_sound_16 ?_
    refine g_iconst X (v := -1) dX5_sound_19 (by decide) ?_
    refine g_mcallVi X 0 (c_X5_soundOf l D cy ad _ _ _ t 1 _ (by omega) (Or.inl rfl) (hTu _ (by omega)) (fun i hi => (hPi i hi).2.2.1)) kl_X5_87 ⟨rfl, rfl, Nat.le_of_ble_eq_true rfl, Nat.le_of_ble_eq_true rfl⟩ (by omega) lM_O kv_X5 rfl rfl (Nat.le_of_ble_eq_true rfl) dX5_sound_20 ⟨Nat.le_of_ble_eq_true rfl, Nat.le_of_ble_eq_true rfl⟩ (fun r_10 ρ_9 h_11 => ?_)
    obtain ⟨er_10, e9⟩ := h_11
    rw [e9, er_10]
    clear e9
    refine g_goto X 31 dX5_sound_23 (by decide) ?_
    exact g_iret X hr hlk (by omega) (by omega) dX5_sound_31 (by have hF : souF ρ (nI t) = (0, sndC ρ 1 t (-1), ρ) := (by unfold souF; rw [if_pos ibt, ext]); rw [hF]; exact ⟨_, rfl, fun _ => rfl⟩)

set_option maxHeartbeats 1000000 in
set_option maxRecDepth 100000 in
theorem c_X5_streetTold (l : Launch) (D : va_G) (cy : Nat → ClassId) (ad : Nat → Nat) (ρ : Nat → Nat → Int32) (th a : Int32) (z w T d : Nat) (hz : z < 8) (hw : w < 5) (hT : ρ 0 5 = nI T) (hT6 : T ≤ 6) (hd : ρ 0 7 = nI d) (hd31 : d < 2 ^ 31) (hH : ∀ t, T ≤ t → t < 6 → ρ (33 + 2 * z) t = 0) : gMI l yX5_streetTold cX5_streetTold 5 (some .int) { frames := 1, cells := 1, slots := 5, locals := 21 } D cy 18 ad (cM ad cy) [.ref (ad 0), .int (nI z), .int (nI w)] (rM ρ th a) (fun r μ1 => r = toldF ρ z w (wdF ρ) ∧ μ1 = rM ρ th a) 1 5 := by
  refine gMI_of (ls := [(0, .ref (ad 0)), (1, .int (nI z)), (2, .int (nI w))]) RX5 rfl (by decide +kernel) (Nat.le_of_ble_eq_true rfl) rfl ?_
  intro p e s m args below meth c A X hr hlk hnm
  refine g_iconst X (v := 0) dX5_streetTold_0 (by decide) ?_
  refine g_istore_n X [(3, .int _), (0, .ref _), (1, .int _), (2, .int _)] dX5_streetTold_1 rfl (by decide) rfl ?_
  refine g_iconst X (v := 0) dX5_streetTold_2 (by decide) ?_
  refine g_istore X [(4, .int _), (3, .int _), (0, .ref _), (1, .int _), (2, .int _)] dX5_streetTold_3 (by decide) rfl ?_
  refine g_ls (ls' := [(0, .ref _), (1, .int _), (2, .int _), (3, .int _), (4, .int _)]) [2, 3, 4, 1, 0] rfl ?_
  refine g_loop (fun _ => True) (fun _ => (rM ρ th a)) (fun i => [(0, .ref (ad 0)), (1, .int (nI z)), (2, .int (nI w)), (3, .int (sumI (fun j => ρ (33 + 2 * z) j) i)), (4, .int (nI i))]) (fun _ => 0) (fun _ => 0) T 0 trivial (by omega) rfl rfl rfl rfl (fun i h0i hi hIi ihi => ?_)
  refine g_iload X dX5_streetTold_5 4 rfl ?_
  refine g_aload_n X dX5_streetTold_7 0 rfl rfl ?_
  refine g_geti X 0 (by omega) 1 (by decide) ku_X5 kv_X5 kf_X5_57 rfl lM_o_tunes dX5_streetTold_8 ?_
  rw [rM_tun, hT]
  refine g_icmp_geN X i T 35 (by omega) (by omega) dX5_streetTold_11 (by decide) (fun c_1 => ?_) (fun c_1 => ?_)
  · skip
    have hiT : i = T := by omega
    have hsum : sumI (fun j => ρ (33 + 2 * z) j) i = hrd ρ z := by rw [hiT]; exact hrd_T hT6 hH
    rw [hsum]
    refine g_iconst X (v := 5) dX5_streetTold_35 (by decide) ?_
    refine g_newi X 5 (by decide) kac_int ⟨Nat.le_of_ble_eq_true rfl, Nat.le_of_ble_eq_true rfl⟩ dX5_streetTold_36 (fun q_2 => ?_)
    obtain ⟨ρ_3, eρ_3⟩ : ∃ ρz, ρz = xRo (rM ρ th a) 18 := ⟨_, rfl⟩
    rw [← eρ_3]
    have hx_4 : ∀ k, k ≠ 18 → ρ_3 k = rM ρ th a k := fun k hk => by rw [eρ_3]; simp only [xRo]; rw [if_neg hk]
    refine g_dup X dX5_streetTold_38 rfl ?_
    refine g_iconst X (v := 0) dX5_streetTold_39 (by decide) ?_
    refine g_aload_n X dX5_streetTold_40 0 rfl rfl ?_
    refine g_getr X 0 (by omega) 5 (by decide) ku_X5 kv_X5 kf_X5_16 rfl (gFR_x lM_o_listeners (by decide) (by decide)) dX5_streetTold_41 ?_
    refine g_iload_n X dX5_streetTold_44 1 rfl rfl ?_
    refine g_ialdN X 3 z (by omega) (gAI_x lM_listeners (by decide)) (by omega) (by decide) dX5_streetTold_45 ?_
    rw [hx_4 3 (by decide), rM_lis (by omega)]
    refine g_iastN X 18 0 (by omega) gAI_n (by omega) (by decide) dX5_streetTold_46 (fun ρ_5 eρ_5 => ?_)
    have hx_6 : ∀ k, k ≠ 18 → ρ_5 k = rM ρ th a k := fun k hk => by rw [eρ_5]; funext j; rw [up2_k hk, hx_4 k hk]
    refine g_dup X dX5_streetTold_47 rfl ?_
    refine g_iconst X (v := 1) dX5_streetTold_48 (by decide) ?_
    refine g_aload_n X dX5_streetTold_49 0 rfl rfl ?_
    refine g_getr X 0 (by omega) 6 (by decide) ku_X5 kv_X5 kf_X5_19 rfl (gFR_x lM_o_permits (by decide) (by decide)) dX5_streetTold_50 ?_
    refine g_iload_n X dX5_streetTold_53 1 rfl rfl ?_
    refine g_ialdN X 4 z (by omega) (gAI_x lM_permits (by decide)) (by omega) (by decide) dX5_streetTold_54 ?_
    rw [hx_6 4 (by decide), rM_per (by omega)]
    refine g_iastN X 18 1 (by omega) gAI_n (by omega) (by decide) dX5_streetTold_55 (fun ρ_7 eρ_7 => ?_)
    have hx_8 : ∀ k, k ≠ 18 → ρ_7 k = rM ρ th a k := fun k hk => by rw [eρ_7]; funext j; rw [up2_k hk, hx_6 k hk]
    refine g_dup X dX5_streetTold_56 rfl ?_
    refine g_iconst X (v := 2) dX5_streetTold_57 (by decide) ?_
    refine g_aload_n X dX5_streetTold_58 0 rfl rfl ?_
    refine g_iload_n X dX5_streetTold_59 1 rfl rfl ?_
    refine g_pureVi X (rM ρ th a) (fun j hj => by rw [Nat.zero_add, hx_8 j (by omega)]) 0 (c_X5_isPermitted l D cy ad _ _ _ z d (by omega) hd (by omega)) kl_X5_98 ⟨rfl, rfl, Nat.le_of_ble_eq_true rfl, Nat.le_of_ble_eq_true rfl⟩ gSub_x (by omega) (gOb_x lM_O (by decide)) kv_X5 rfl rfl (Nat.le_of_ble_eq_true rfl) dX5_streetTold_60 ⟨Nat.le_of_ble_eq_true rfl, Nat.le_of_ble_eq_true rfl⟩ (fun _ _ q9 => q9.2) (fun r_10 h_11 => ?_)
    have er_10 := h_11.1
    rw [er_10]
    refine g_if_eq X 70 dX5_streetTold_63 (by decide) (fun c_12 => ?_) (fun c_12 => ?_)
    · skip
      have cP := c_12
      refine g_iconst X (v := 0) dX5_streetTold_70 (by decide) ?_
      refine g_iastN X 18 2 (by omega) gAI_n (by omega) (by decide) dX5_streetTold_71 (fun ρ_13 eρ_13 => ?_)
      have hx_14 : ∀ k, k ≠ 18 → ρ_13 k = rM ρ th a k := fun k hk => by rw [eρ_13]; funext j; rw [up2_k hk, hx_8 k hk]
      refine g_dup X dX5_streetTold_72 rfl ?_
      refine g_iconst X (v := 3) dX5_streetTold_73 (by decide) ?_
      refine g_aload_n X dX5_streetTold_74 0 rfl rfl ?_
      refine g_getr X 0 (by omega) 7 (by decide) ku_X5 kv_X5 kf_X5_22 rfl (gFR_x lM_o_paid (by decide) (by decide)) dX5_streetTold_75 ?_
      refine g_iload_n X dX5_streetTold_78 1 rfl rfl ?_
      refine g_ialdN X 5 z (by omega) (gAI_x lM_paid (by decide)) (by omega) (by decide) dX5_streetTold_79 ?_
      rw [hx_14 5 (by decide), rM_pai (by omega)]
      refine g_iastN X 18 3 (by omega) gAI_n (by omega) (by decide) dX5_streetTold_80 (fun ρ_15 eρ_15 => ?_)
      have hx_16 : ∀ k, k ≠ 18 → ρ_15 k = rM ρ th a k := fun k hk => by rw [eρ_15]; funext j; rw [up2_k hk, hx_14 k hk]
      refine g_dup X dX5_streetTold_81 rfl ?_
      refine g_iconst X (v := 4) dX5_streetTold_82 (by decide) ?_
      refine g_iload_n X dX5_streetTold_83 3 rfl rfl ?_
      refine g_iastN X 18 4 (by omega) gAI_n (by omega) (by decide) dX5_streetTold_84 (fun ρ_17 eρ_17 => ?_)
      have hx_18 : ∀ k, k ≠ 18 → ρ_17 k = rM ρ th a k := fun k hk => by rw [eρ_17]; funext j; rw [up2_k hk, hx_16 k hk]
      refine g_astore X [(4, .ref _), (0, .ref _), (1, .int _), (2, .int _), (3, .int _)] dX5_streetTold_85 (by decide) rfl ?_
      refine g_aload X dX5_streetTold_87 0 rfl ?_
      refine g_iload_n X dX5_streetTold_89 3 rfl rfl ?_
      refine g_ialdN X 18 w (by omega) gAI_n (by omega) (by decide) dX5_streetTold_90 ?_
      refine g_shrink gSub_x ?_
      refine g_congr (ρ1 := rM ρ th a) (fun k hk => by rw [hx_18 k (by omega)]) ?_
      exact g_iret X hr hlk (by omega) (by omega) dX5_streetTold_91 (⟨by rcases (show w = 0 ∨ w = 1 ∨ w = 2 ∨ w = 3 ∨ w = 4 by omega) with rfl | rfl | rfl | rfl | rfl <;> simp [*, up2_e, toldF], rfl⟩)
    · skip
      have cP := c_12
      refine g_iconst X (v := 1) dX5_streetTold_66 (by decide) ?_
      refine g_goto X 71 dX5_streetTold_67 (by decide) ?_
      refine g_iastN X 18 2 (by omega) gAI_n (by omega) (by decide) dX5_streetTold_71 (fun ρ_19 eρ_19 => ?_)
      have hx_20 : ∀ k, k ≠ 18 → ρ_19 k = rM ρ th a k := fun k hk => by rw [eρ_19]; funext j; rw [up2_k hk, hx_8 k hk]
      refine g_dup X dX5_streetTold_72 rfl ?_
      refine g_iconst X (v := 3) dX5_streetTold_73 (by decide) ?_
      refine g_aload_n X dX5_streetTold_74 0 rfl rfl ?_
      refine g_getr X 0 (by omega) 7 (by decide) ku_X5 kv_X5 kf_X5_22 rfl (gFR_x lM_o_paid (by decide) (by decide)) dX5_streetTold_75 ?_
      refine g_iload_n X dX5_streetTold_78 1 rfl rfl ?_
      refine g_ialdN X 5 z (by omega) (gAI_x lM_paid (by decide)) (by omega) (by decide) dX5_streetTold_79 ?_
      rw [hx_20 5 (by decide), rM_pai (by omega)]
      refine g_iastN X 18 3 (by omega) gAI_n (by omega) (by decide) dX5_streetTold_80 (fun ρ_21 eρ_21 => ?_)
      have hx_22 : ∀ k, k ≠ 18 → ρ_21 k = rM ρ th a k := fun k hk => by rw [eρ_21]; funext j; rw [up2_k hk, hx_20 k hk]
      refine g_dup X dX5_streetTold_81 rfl ?_
      refine g_iconst X (v := 4) dX5_streetTold_82 (by decide) ?_
      refine g_iload_n X dX5_streetTold_83 3 rfl rfl ?_
      refine g_iastN X 18 4 (by omega) gAI_n (by omega) (by decide) dX5_streetTold_84 (fun ρ_23 eρ_23 => ?_)
      have hx_24 : ∀ k, k ≠ 18 → ρ_23 k = rM ρ th a k := fun k hk => by rw [eρ_23]; funext j; rw [up2_k hk, hx_22 k hk]
      refine g_astore X [(4, .ref _), (0, .ref _), (1, .int _), (2, .int _), (3, .int _)] dX5_streetTold_85 (by decide) rfl ?_
      refine g_aload X dX5_streetTold_87 0 rfl ?_
      refine g_iload_n X dX5_streetTold_89 3 rfl rfl ?_
      refine g_ialdN X 18 w (by omega) gAI_n (by omega) (by decide) dX5_streetTold_90 ?_
      refine g_shrink gSub_x ?_
      refine g_congr (ρ1 := rM ρ th a) (fun k hk => by rw [hx_24 k (by omega)]) ?_
      exact g_iret X hr hlk (by omega) (by omega) dX5_streetTold_91 (⟨by rcases (show w = 0 ∨ w = 1 ∨ w = 2 ∨ w = 3 ∨ w = 4 by omega) with rfl | rfl | rfl | rfl | rfl <;> simp [*, up2_e, toldF]; exact (pm1 cP).symm, rfl⟩)
  · skip
    refine g_iload_n X dX5_streetTold_14 3 rfl rfl ?_
    refine g_aload_n X dX5_streetTold_15 0 rfl rfl ?_
    refine g_getr X 0 (by omega) 8 (by decide) ku_X5 kv_X5 kf_X5_25 rfl lM_o_played dX5_streetTold_16 ?_
    refine g_bipush X (v := 6) dX5_streetTold_19 (by decide) ?_
    refine g_iload_n X dX5_streetTold_21 1 rfl rfl ?_
    refine g_imul X dX5_streetTold_22 ?_
    rw [show (6 : Int32) * nI z = nI (6 * z) from mulN 6 z]
    refine g_iload X dX5_streetTold_23 4 rfl ?_
    refine g_iadd X dX5_streetTold_25 ?_
    rw [nI_add]
    refine g_ialdN X 6 (6 * z + i) (by omega) lM_played (by omega) (by decide) dX5_streetTold_26 ?_
    rw [rM_ply (by omega) (by omega)]
    refine g_iadd X dX5_streetTold_27 ?_
    refine g_istore_n X [(3, .int _), (0, .ref _), (1, .int _), (2, .int _), (4, .int _)] dX5_streetTold_28 rfl (by decide) rfl ?_
    refine g_iincN X i 4 [(4, .int _), (3, .int _), (0, .ref _), (1, .int _), (2, .int _)] 4 dX5_streetTold_29 rfl (by decide) rfl ?_
    refine g_goto X 5 dX5_streetTold_32 (by decide) ?_
    refine g_ls (ls' := [(0, .ref _), (1, .int _), (2, .int _), (3, .int _), (4, .int _)]) [2, 3, 4, 1, 0] rfl ?_
    exact g_eqv (ihi (by omega) trivial) (rfl) (rfl) rfl rfl

set_option maxHeartbeats 1000000 in
set_option maxRecDepth 100000 in
theorem c_X5_counted (l : Launch) (D : va_G) (cy : Nat → ClassId) (ad : Nat → Nat) (ρ : Nat → Nat → Int32) (th a : Int32) (w : Nat) (hw : w < 9) (N T S d : Nat) (hI : Inv ρ N T S d) : gMI l yX5_counted cX5_counted 3 (some .int) { frames := 2, cells := 1, slots := 9, locals := 46 } D cy 18 ad (cM ad cy) [.ref (ad 0), .int (nI w)] (rM ρ th a) (fun r μ1 => r = countF ρ w ∧ μ1 = rM ρ th a) 1 9 := by
  refine gMI_of (ls := [(0, .ref (ad 0)), (1, .int (nI w))]) RX5 rfl (by decide +kernel) (Nat.le_of_ble_eq_true rfl) rfl ?_
  intro p e s m args below meth c A X hr hlk hnm
  obtain ⟨hT, hT6, hS, hS8, hd, hdN, hN, hTu, hSt, hPi, hZ, hHd⟩ := id hI
  have hwd : wdF ρ = nI (d % 7) := by unfold wdF; rw [hd, nI_clamp (by omega)]
  refine g_bipush X (v := 9) dX5_counted_0 (by decide) ?_
  refine g_newi X 9 (by decide) kac_int ⟨Nat.le_of_ble_eq_true rfl, Nat.le_of_ble_eq_true rfl⟩ dX5_counted_2 (fun q_1 => ?_)
  obtain ⟨ρ_2, eρ_2⟩ : ∃ ρz, ρz = xRo (rM ρ th a) 18 := ⟨_, rfl⟩
  rw [← eρ_2]
  have hx_3 : ∀ k, k ≠ 18 → ρ_2 k = rM ρ th a k := fun k hk => by rw [eρ_2]; simp only [xRo]; rw [if_neg hk]
  refine g_dup X dX5_counted_4 rfl ?_
  refine g_iconst X (v := 0) dX5_counted_5 (by decide) ?_
  refine g_aload_n X dX5_counted_6 0 rfl rfl ?_
  refine g_getr X 0 (by omega) 12 (by decide) ku_X5 kv_X5 kf_X5_38 rfl (gFR_x lM_o_s (by decide) (by decide)) dX5_counted_7 ?_
  refine g_getiN X (1 + 7) (by omega) 0 (by decide) ku_X4 kv_X4 kn_X5_91 rfl (gFI_x (lM_f_day (isQ7 (Or.inl rfl))) (by decide)) dX5_counted_10 ?_
  rw [hx_3 (1 + 7) (by decide), rM_day]
  refine g_iastN X 18 0 (by omega) gAI_n (by omega) (by decide) dX5_counted_13 (fun ρ_4 eρ_4 => ?_)
  have hx_5 : ∀ k, k ≠ 18 → ρ_4 k = rM ρ th a k := fun k hk => by rw [eρ_4]; funext j; rw [up2_k hk, hx_3 k hk]
  refine g_dup X dX5_counted_14 rfl ?_
  refine g_iconst X (v := 1) dX5_counted_15 (by decide) ?_
  refine g_aload_n X dX5_counted_16 0 rfl rfl ?_
  refine g_getr X 0 (by omega) 12 (by decide) ku_X5 kv_X5 kf_X5_38 rfl (gFR_x lM_o_s (by decide) (by decide)) dX5_counted_17 ?_
  refine g_getiN X (1 + 7) (by omega) 0 (by decide) ku_X4 kv_X4 kn_X5_91 rfl (gFI_x (lM_f_day (isQ7 (Or.inl rfl))) (by decide)) dX5_counted_20 ?_
  rw [hx_5 (1 + 7) (by decide), rM_day]
  refine g_bipush X (v := 7) dX5_counted_23 (by decide) ?_
  refine g_irem X dX5_counted_25 (by decide) ?_
  rw [hd, remN7 (by omega), ← hwd]
  refine g_iastN X 18 1 (by omega) gAI_n (by omega) (by decide) dX5_counted_26 (fun ρ_6 eρ_6 => ?_)
  have hx_7 : ∀ k, k ≠ 18 → ρ_6 k = rM ρ th a k := fun k hk => by rw [eρ_6]; funext j; rw [up2_k hk, hx_5 k hk]
  refine g_dup X dX5_counted_27 rfl ?_
  refine g_iconst X (v := 2) dX5_counted_28 (by decide) ?_
  refine g_aload_n X dX5_counted_29 0 rfl rfl ?_
  refine g_geti X 0 (by omega) 10 (by decide) ku_X5 kv_X5 kf_X5_31 rfl (gFI_x lM_o_coins (by decide)) dX5_counted_30 ?_
  rw [hx_7 0 (by decide), rM_coi]
  refine g_iastN X 18 2 (by omega) gAI_n (by omega) (by decide) dX5_counted_33 (fun ρ_8 eρ_8 => ?_)
  have hx_9 : ∀ k, k ≠ 18 → ρ_8 k = rM ρ th a k := fun k hk => by rw [eρ_8]; funext j; rw [up2_k hk, hx_7 k hk]
  refine g_dup X dX5_counted_34 rfl ?_
  refine g_iconst X (v := 3) dX5_counted_35 (by decide) ?_
  refine g_aload_n X dX5_counted_36 0 rfl rfl ?_
  refine g_geti X 0 (by omega) 1 (by decide) ku_X5 kv_X5 kf_X5_57 rfl (gFI_x lM_o_tunes (by decide)) dX5_counted_37 ?_
  rw [hx_9 0 (by decide), rM_tun]
  refine g_iastN X 18 3 (by omega) gAI_n (by omega) (by decide) dX5_counted_40 (fun ρ_10 eρ_10 => ?_)
  have hx_11 : ∀ k, k ≠ 18 → ρ_10 k = rM ρ th a k := fun k hk => by rw [eρ_10]; funext j; rw [up2_k hk, hx_9 k hk]
  refine g_dup X dX5_counted_41 rfl ?_
  refine g_iconst X (v := 4) dX5_counted_42 (by decide) ?_
  refine g_aload_n X dX5_counted_43 0 rfl rfl ?_
  refine g_geti X 0 (by omega) 4 (by decide) ku_X5 kv_X5 kf_X5_64 rfl (gFI_x lM_o_streets (by decide)) dX5_counted_44 ?_
  rw [hx_11 0 (by decide), rM_str]
  refine g_iastN X 18 4 (by omega) gAI_n (by omega) (by decide) dX5_counted_47 (fun ρ_12 eρ_12 => ?_)
  have hx_13 : ∀ k, k ≠ 18 → ρ_12 k = rM ρ th a k := fun k hk => by rw [eρ_12]; funext j; rw [up2_k hk, hx_11 k hk]
  refine g_dup X dX5_counted_48 rfl ?_
  refine g_iconst X (v := 5) dX5_counted_49 (by decide) ?_
  refine g_aload_n X dX5_counted_50 0 rfl rfl ?_
  refine g_getr X 0 (by omega) 12 (by decide) ku_X5 kv_X5 kf_X5_38 rfl (gFR_x lM_o_s (by decide) (by decide)) dX5_counted_51 ?_
  refine g_pureVi X (rM ρ th a) (fun j hj => by rw [Nat.zero_add, hx_13 j (by omega)]) (1 + 7) (c_X4_crickets l D cy ad _ _ _ 1 (Or.inl rfl) (fun i hi => (hPi i hi).2.2.1)) kl_X5_119 ⟨rfl, rfl, Nat.le_of_ble_eq_true rfl, Nat.le_of_ble_eq_true rfl⟩ gSub_x (by omega) (gOb_x (lM_P (isQ7 (Or.inl rfl))) (by decide)) kv_X4 rfl rfl (Nat.le_of_ble_eq_true rfl) dX5_counted_54 ⟨Nat.le_of_ble_eq_true rfl, Nat.le_of_ble_eq_true rfl⟩ (fun _ _ q9 => q9.2) (fun r_15 h_16 => ?_)
  have er_15 := h_16.1
  rw [er_15]
  refine g_iastN X 18 5 (by omega) gAI_n (by omega) (by decide) dX5_counted_57 (fun ρ_17 eρ_17 => ?_)
  have hx_18 : ∀ k, k ≠ 18 → ρ_17 k = rM ρ th a k := fun k hk => by rw [eρ_17]; funext j; rw [up2_k hk, hx_13 k hk]
  refine g_dup X dX5_counted_58 rfl ?_
  refine g_bipush X (v := 6) dX5_counted_59 (by decide) ?_
  refine g_aload_n X dX5_counted_61 0 rfl rfl ?_
  refine g_getr X 0 (by omega) 12 (by decide) ku_X5 kv_X5 kf_X5_38 rfl (gFR_x lM_o_s (by decide) (by decide)) dX5_counted_62 ?_
  refine g_pureVi X (rM ρ th a) (fun j hj => by rw [Nat.zero_add, hx_18 j (by omega)]) (1 + 7) (c_X4_allWorn l D cy ad _ _ _ 1 (Or.inl rfl)) kl_X5_135 ⟨rfl, rfl, Nat.le_of_ble_eq_true rfl, Nat.le_of_ble_eq_true rfl⟩ gSub_x (by omega) (gOb_x (lM_P (isQ7 (Or.inl rfl))) (by decide)) kv_X4 rfl rfl (Nat.le_of_ble_eq_true rfl) dX5_counted_65 ⟨Nat.le_of_ble_eq_true rfl, Nat.le_of_ble_eq_true rfl⟩ (fun _ _ q9 => q9.2) (fun r_20 h_21 => ?_)
  have er_20 := h_21.1
  rw [er_20]
  refine g_iastN X 18 6 (by omega) gAI_n (by omega) (by decide) dX5_counted_68 (fun ρ_22 eρ_22 => ?_)
  have hx_23 : ∀ k, k ≠ 18 → ρ_22 k = rM ρ th a k := fun k hk => by rw [eρ_22]; funext j; rw [up2_k hk, hx_18 k hk]
  refine g_dup X dX5_counted_69 rfl ?_
  refine g_bipush X (v := 7) dX5_counted_70 (by decide) ?_
  refine g_aload_n X dX5_counted_72 0 rfl rfl ?_
  refine g_getr X 0 (by omega) 12 (by decide) ku_X5 kv_X5 kf_X5_38 rfl (gFR_x lM_o_s (by decide) (by decide)) dX5_counted_73 ?_
  refine g_pureVi X (rM ρ th a) (fun j hj => by rw [Nat.zero_add, hx_23 j (by omega)]) (1 + 7) (c_X4_allOff l D cy ad _ _ _ 1 (Or.inl rfl)) kl_X5_138 ⟨rfl, rfl, Nat.le_of_ble_eq_true rfl, Nat.le_of_ble_eq_true rfl⟩ gSub_x (by omega) (gOb_x (lM_P (isQ7 (Or.inl rfl))) (by decide)) kv_X4 rfl rfl (Nat.le_of_ble_eq_true rfl) dX5_counted_76 ⟨Nat.le_of_ble_eq_true rfl, Nat.le_of_ble_eq_true rfl⟩ (fun _ _ q9 => q9.2) (fun r_25 h_26 => ?_)
  have er_25 := h_26.1
  rw [er_25]
  refine g_iastN X 18 7 (by omega) gAI_n (by omega) (by decide) dX5_counted_79 (fun ρ_27 eρ_27 => ?_)
  have hx_28 : ∀ k, k ≠ 18 → ρ_27 k = rM ρ th a k := fun k hk => by rw [eρ_27]; funext j; rw [up2_k hk, hx_23 k hk]
  refine g_dup X dX5_counted_80 rfl ?_
  refine g_bipush X (v := 8) dX5_counted_81 (by decide) ?_
  refine g_aload_n X dX5_counted_83 0 rfl rfl ?_
  refine g_geti X 0 (by omega) 11 (by decide) ku_X5 kv_X5 kf_X5_101 rfl (gFI_x lM_o_fines (by decide)) dX5_counted_84 ?_
  rw [hx_28 0 (by decide), rM_fin]
  refine g_iastN X 18 8 (by omega) gAI_n (by omega) (by decide) dX5_counted_87 (fun ρ_29 eρ_29 => ?_)
  have hx_30 : ∀ k, k ≠ 18 → ρ_29 k = rM ρ th a k := fun k hk => by rw [eρ_29]; funext j; rw [up2_k hk, hx_28 k hk]
  refine g_astore_n X [(2, .ref _), (0, .ref _), (1, .int _)] dX5_counted_88 rfl (by decide) rfl ?_
  refine g_aload_n X dX5_counted_89 0 rfl rfl ?_
  refine g_iload_n X dX5_counted_90 2 rfl rfl ?_
  refine g_ialdN X 18 w (by omega) gAI_n (by omega) (by decide) dX5_counted_91 ?_
  refine g_shrink gSub_x ?_
  refine g_congr (ρ1 := rM ρ th a) (fun k hk => by rw [hx_30 k (by omega)]) ?_
  exact g_iret X hr hlk (by omega) (by omega) dX5_counted_92 (⟨by rcases (show w = 0 ∨ w = 1 ∨ w = 2 ∨ w = 3 ∨ w = 4 ∨ w = 5 ∨ w = 6 ∨ w = 7 ∨ w = 8 by omega) with rfl | rfl | rfl | rfl | rfl | rfl | rfl | rfl | rfl <;> simp [*, up2_e, countF, sumUpF], rfl⟩)

set_option maxHeartbeats 1000000 in
set_option maxRecDepth 100000 in
theorem c_X5_told (l : Launch) (D : va_G) (cy : Nat → ClassId) (ad : Nat → Nat) (ρ : Nat → Nat → Int32) (th a : Int32) (N T S d : Nat) (hI : Inv ρ N T S d) (x y : Int32) : gMI l yX5_told cX5_told 3 (some .int) { frames := 2, cells := 1, slots := 5, locals := 45 } D cy 18 ad (cM ad cy) [.ref (ad 0), .int x, .int y] (rM ρ th a) (fun r μ1 => ∃ a9 : Int32, μ1 = rM (tolF ρ x y).2.2 (nI (tolF ρ x y).1) a9 ∧ ((tolF ρ x y).1 = 0 → r = (tolF ρ x y).2.1)) 1 5 := by
  refine gMI_of (ls := [(0, .ref (ad 0)), (1, .int x), (2, .int y)]) RX5 rfl (by decide +kernel) (Nat.le_of_ble_eq_true rfl) rfl ?_
  intro p e s m args below meth c A X hr hlk hnm
  obtain ⟨hT, hT6, hS, hS8, hd, hdN, hN, hTu, hSt, hPi, hZ, hHd⟩ := id hI
  have hwd : wdF ρ = nI (d % 7) := by unfold wdF; rw [hd, nI_clamp (by omega)]
  refine g_aload_n X dX5_told_0 0 rfl rfl ?_
  refine g_iconst X (v := 0) dX5_told_1 (by decide) ?_
  refine g_puti X 0 (by omega) 0 (by decide) ku_X5 kv_X5 kf_X5_45 rfl tyX5 tyX5_ok nmX5 rfl (by decide +kernel) lM_o_thrown dX5_told_2 (fun ρ_1 eρ_1 => ?_)
  rw [eρ_1, wM_thr]
  refine g_aload_n X dX5_told_5 0 rfl rfl ?_
  refine g_iload_n X dX5_told_6 1 rfl rfl ?_
  refine g_mcallVi X 0 (c_X5_isStreet l D cy ad _ _ _ _ S hS (by omega)) kl_X5_81 ⟨rfl, rfl, Nat.le_of_ble_eq_true rfl, Nat.le_of_ble_eq_true rfl⟩ (by omega) lM_O kv_X5 rfl rfl (Nat.le_of_ble_eq_true rfl) dX5_told_7 ⟨Nat.le_of_ble_eq_true rfl, Nat.le_of_ble_eq_true rfl⟩ (fun r_3 ρ_2 h_4 => ?_)
  obtain ⟨er_3, e9⟩ := h_4
  rw [e9, er_3]
  clear e9
  refine g_if_eq X 31 dX5_told_10 (by decide) (fun c_5 => ?_) (fun c_5 => ?_)
  · skip
    have nb := b10_f c_5
    refine g_aload_n X dX5_told_31 0 rfl rfl ?_
    refine g_iconst X (v := 1) dX5_told_32 (by decide) ?_
    refine g_mcallVi X 0 (c_X5_no l D cy ad _ _ _ _) kl_X5_67 ⟨rfl, rfl, Nat.le_of_ble_eq_true rfl, Nat.le_of_ble_eq_true rfl⟩ (by omega) lM_O kv_X5 rfl rfl (Nat.le_of_ble_eq_true rfl) dX5_told_33 ⟨Nat.le_of_ble_eq_true rfl, Nat.le_of_ble_eq_true rfl⟩ (fun r_7 ρ_6 h_8 => ?_)
    obtain ⟨er_7, e9⟩ := h_8
    rw [e9, er_7]
    exact g_iret X hr hlk (by omega) (by omega) dX5_told_36 (by have hF : tolF ρ x y = (1, 0, ρ) := (by unfold tolF; rw [if_neg nb]); rw [hF]; exact ⟨_, rfl, fun _ => rfl⟩)
  · skip
    have ibz := b10_t c_5
    obtain ⟨z, hz, rfl⟩ := inb_N hS (by omega) ibz
    have exz : ix (nI z) = z := nI_clamp (by omega)
    refine g_iload_n X dX5_told_13 2 rfl rfl ?_
    refine g_iconst X (v := 0) dX5_told_14 (by decide) ?_
    refine g_iconst X (v := 4) dX5_told_15 (by decide) ?_
    refine g_mcallSi X (c_X5_isIn l D cy ad _ _ _ _ _ _) kl_X5_60 ⟨rfl, rfl, Nat.le_of_ble_eq_true rfl, Nat.le_of_ble_eq_true rfl⟩ rfl rfl (Nat.le_of_ble_eq_true rfl) dX5_told_16 ⟨Nat.le_of_ble_eq_true rfl, Nat.le_of_ble_eq_true rfl⟩ (fun r_10 ρ_9 h_11 => ?_)
    obtain ⟨er_10, e9⟩ := h_11
    rw [e9, er_10]
    clear e9
    rw [isI_5]
    refine g_if_eq X 31 dX5_told_19 (by decide) (fun c_12 => ?_) (fun c_12 => ?_)
    · skip
      have nb := b10_f c_12
      refine g_aload_n X dX5_told_31 0 rfl rfl ?_
      refine g_iconst X (v := 1) dX5_told_32 (by decide) ?_
      refine g_mcallVi X 0 (c_X5_no l D cy ad _ _ _ _) kl_X5_67 ⟨rfl, rfl, Nat.le_of_ble_eq_true rfl, Nat.le_of_ble_eq_true rfl⟩ (by omega) lM_O kv_X5 rfl rfl (Nat.le_of_ble_eq_true rfl) dX5_told_33 ⟨Nat.le_of_ble_eq_true rfl, Nat.le_of_ble_eq_true rfl⟩ (fun r_14 ρ_13 h_15 => ?_)
      obtain ⟨er_14, e9⟩ := h_15
      rw [e9, er_14]
      exact g_iret X hr hlk (by omega) (by omega) dX5_told_36 (by have hF : tolF ρ (nI z) y = (1, 0, ρ) := (by unfold tolF; rw [if_pos ibz, if_neg nb]); rw [hF]; exact ⟨_, rfl, fun _ => rfl⟩)
    · skip
      have ibk := b10_t c_12
      obtain ⟨k, hk, rfl⟩ := inb_N (T := 5) rfl (by omega) ibk
      have exk : ix (nI k) = k := nI_clamp (by omega)
      refine g_aload_n X dX5_told_22 0 rfl rfl ?_
      refine g_iload_n X dX5_told_23 1 rfl rfl ?_
      refine g_iload_n X dX5_told_24 2 rfl rfl ?_
      refine g_mcallVi X 0 (c_X5_streetTold l D cy ad _ _ _ z k T d (by omega) (by omega) hT hT6 hd (by omega) (heard_T hI (by omega))) kl_X5_132 ⟨rfl, rfl, Nat.le_of_ble_eq_true rfl, Nat.le_of_ble_eq_true rfl⟩ (by omega) lM_O kv_X5 rfl rfl (Nat.le_of_ble_eq_true rfl) dX5_told_25 ⟨Nat.le_of_ble_eq_true rfl, Nat.le_of_ble_eq_true rfl⟩ (fun r_17 ρ_16 h_18 => ?_)
      obtain ⟨er_17, e9⟩ := h_18
      rw [e9, er_17]
      clear e9
      refine g_goto X 36 dX5_told_28 (by decide) ?_
      exact g_iret X hr hlk (by omega) (by omega) dX5_told_36 (by have hF : tolF ρ (nI z) (nI k) = (0, toldF ρ z k (wdF ρ), ρ) := (by unfold tolF; rw [if_pos ibz, if_pos ibk, exz, exk]); rw [hF]; exact ⟨_, rfl, fun _ => rfl⟩)

set_option maxHeartbeats 1000000 in
set_option maxRecDepth 100000 in
theorem c_X5_count (l : Launch) (D : va_G) (cy : Nat → ClassId) (ad : Nat → Nat) (ρ : Nat → Nat → Int32) (th a : Int32) (N T S d : Nat) (hI : Inv ρ N T S d) (x : Int32) : gMI l yX5_count cX5_count 2 (some .int) { frames := 3, cells := 1, slots := 9, locals := 68 } D cy 18 ad (cM ad cy) [.ref (ad 0), .int x] (rM ρ th a) (fun r μ1 => ∃ a9 : Int32, μ1 = rM (couF ρ x).2.2 (nI (couF ρ x).1) a9 ∧ ((couF ρ x).1 = 0 → r = (couF ρ x).2.1)) 1 9 := by
  refine gMI_of (ls := [(0, .ref (ad 0)), (1, .int x)]) RX5 rfl (by decide +kernel) (Nat.le_of_ble_eq_true rfl) rfl ?_
  intro p e s m args below meth c A X hr hlk hnm
  obtain ⟨hT, hT6, hS, hS8, hd, hdN, hN, hTu, hSt, hPi, hZ, hHd⟩ := id hI
  have hwd : wdF ρ = nI (d % 7) := by unfold wdF; rw [hd, nI_clamp (by omega)]
  refine g_aload_n X dX5_count_0 0 rfl rfl ?_
  refine g_iconst X (v := 0) dX5_count_1 (by decide) ?_
  refine g_puti X 0 (by omega) 0 (by decide) ku_X5 kv_X5 kf_X5_45 rfl tyX5 tyX5_ok nmX5 rfl (by decide +kernel) lM_o_thrown dX5_count_2 (fun ρ_1 eρ_1 => ?_)
  rw [eρ_1, wM_thr]
  refine g_iload_n X dX5_count_5 1 rfl rfl ?_
  refine g_iconst X (v := 0) dX5_count_6 (by decide) ?_
  refine g_bipush X (v := 8) dX5_count_7 (by decide) ?_
  refine g_mcallSi X (c_X5_isIn l D cy ad _ _ _ _ _ _) kl_X5_60 ⟨rfl, rfl, Nat.le_of_ble_eq_true rfl, Nat.le_of_ble_eq_true rfl⟩ rfl rfl (Nat.le_of_ble_eq_true rfl) dX5_count_9 ⟨Nat.le_of_ble_eq_true rfl, Nat.le_of_ble_eq_true rfl⟩ (fun r_3 ρ_2 h_4 => ?_)
  obtain ⟨er_3, e9⟩ := h_4
  rw [e9, er_3]
  clear e9
  rw [isI_9]
  refine g_if_eq X 23 dX5_count_12 (by decide) (fun c_5 => ?_) (fun c_5 => ?_)
  · skip
    have nb := b10_f c_5
    refine g_aload_n X dX5_count_23 0 rfl rfl ?_
    refine g_iconst X (v := 1) dX5_count_24 (by decide) ?_
    refine g_mcallVi X 0 (c_X5_no l D cy ad _ _ _ _) kl_X5_67 ⟨rfl, rfl, Nat.le_of_ble_eq_true rfl, Nat.le_of_ble_eq_true rfl⟩ (by omega) lM_O kv_X5 rfl rfl (Nat.le_of_ble_eq_true rfl) dX5_count_25 ⟨Nat.le_of_ble_eq_true rfl, Nat.le_of_ble_eq_true rfl⟩ (fun r_7 ρ_6 h_8 => ?_)
    obtain ⟨er_7, e9⟩ := h_8
    rw [e9, er_7]
    exact g_iret X hr hlk (by omega) (by omega) dX5_count_28 (by have hF : couF ρ x = (1, 0, ρ) := (by unfold couF; rw [if_neg nb]); rw [hF]; exact ⟨_, rfl, fun _ => rfl⟩)
  · skip
    have ibk := b10_t c_5
    obtain ⟨k, hk, rfl⟩ := inb_N (T := 9) rfl (by omega) ibk
    have exk : ix (nI k) = k := nI_clamp (by omega)
    refine g_aload_n X dX5_count_15 0 rfl rfl ?_
    refine g_iload_n X dX5_count_16 1 rfl rfl ?_
    refine g_mcallVi X 0 (c_X5_counted l D cy ad _ _ _ k (by omega) N T S d hI) kl_X5_141 ⟨rfl, rfl, Nat.le_of_ble_eq_true rfl, Nat.le_of_ble_eq_true rfl⟩ (by omega) lM_O kv_X5 rfl rfl (Nat.le_of_ble_eq_true rfl) dX5_count_17 ⟨Nat.le_of_ble_eq_true rfl, Nat.le_of_ble_eq_true rfl⟩ (fun r_10 ρ_9 h_11 => ?_)
    obtain ⟨er_10, e9⟩ := h_11
    rw [e9, er_10]
    clear e9
    refine g_goto X 28 dX5_count_20 (by decide) ?_
    exact g_iret X hr hlk (by omega) (by omega) dX5_count_28 (by have hF : couF ρ (nI k) = (0, countF ρ k, ρ) := (by unfold couF; rw [if_pos ibk, exk]); rw [hF]; exact ⟨_, rfl, fun _ => rfl⟩)

set_option maxHeartbeats 1000000 in
set_option maxRecDepth 100000 in
theorem c_X5_rest (l : Launch) (D : va_G) (cy : Nat → ClassId) (ad : Nat → Nat) (ρ : Nat → Nat → Int32) (th a : Int32) (N T S d : Nat) (hI : Inv ρ N T S d) (x : Int32) : gMI l yX5_rest cX5_rest 4 (some .int) { frames := 3, cells := 0, slots := 0, locals := 64 } D cy 18 ad (cM ad cy) [.ref (ad 0), .int x] (rM ρ th a) (fun r μ1 => ∃ a9 : Int32, μ1 = rM (resF ρ x).2.2 (nI (resF ρ x).1) a9 ∧ ((resF ρ x).1 = 0 → r = (resF ρ x).2.1)) 0 0 := by
  refine gMI_of (ls := [(0, .ref (ad 0)), (1, .int x)]) RX5 rfl (by decide +kernel) (Nat.le_of_ble_eq_true rfl) rfl ?_
  intro p e s m args below meth c A X hr hlk hnm
  obtain ⟨hT, hT6, hS, hS8, hd, hdN, hN, hTu, hSt, hPi, hZ, hHd⟩ := id hI
  have hwd : wdF ρ = nI (d % 7) := by unfold wdF; rw [hd, nI_clamp (by omega)]
  refine g_aload_n X dX5_rest_0 0 rfl rfl ?_
  refine g_iconst X (v := 0) dX5_rest_1 (by decide) ?_
  refine g_puti X 0 (by omega) 0 (by decide) ku_X5 kv_X5 kf_X5_45 rfl tyX5 tyX5_ok nmX5 rfl (by decide +kernel) lM_o_thrown dX5_rest_2 (fun ρ_1 eρ_1 => ?_)
  rw [eρ_1, wM_thr]
  refine g_iload_n X dX5_rest_5 1 rfl rfl ?_
  refine g_iconst X (v := 1) dX5_rest_6 (by decide) ?_
  refine g_bipush X (v := 60) dX5_rest_7 (by decide) ?_
  refine g_mcallSi X (c_X5_isIn l D cy ad _ _ _ _ _ _) kl_X5_60 ⟨rfl, rfl, Nat.le_of_ble_eq_true rfl, Nat.le_of_ble_eq_true rfl⟩ rfl rfl (Nat.le_of_ble_eq_true rfl) dX5_rest_9 ⟨Nat.le_of_ble_eq_true rfl, Nat.le_of_ble_eq_true rfl⟩ (fun r_3 ρ_2 h_4 => ?_)
  obtain ⟨er_3, e9⟩ := h_4
  rw [e9, er_3]
  clear e9
  rw [show isI x 1 60 = (if ¬ x < 1 ∧ x ≤ 60 then 1 else 0) from rfl]
  refine g_if_ne X 21 dX5_rest_12 (by decide) (fun c_5 => ?_) (fun c_5 => ?_)
  · skip
    have ibn := b10_t c_5
    obtain ⟨nn, hnn, rfl⟩ := nig_N ibn
    have exn : ix (nI nn) = nn := nI_clamp (by omega)
    refine g_iconst X (v := 0) dX5_rest_21 (by decide) ?_
    refine g_istore_n X [(2, .int _), (0, .ref _), (1, .int _)] dX5_rest_22 rfl (by decide) rfl ?_
    refine g_iconst X (v := 0) dX5_rest_23 (by decide) ?_
    refine g_istore_n X [(3, .int _), (2, .int _), (0, .ref _), (1, .int _)] dX5_rest_24 rfl (by decide) rfl ?_
    refine g_ls (ls' := [(0, .ref _), (1, .int _), (2, .int _), (3, .int _)]) [2, 3, 1, 0] rfl ?_
    refine g_loop (fun _ => True) (fun i => rM (up2 (nsR ρ 1 d i) 0 7 (nI (d + i))) 0 a) (fun i => [(0, .ref (ad 0)), (1, .int (nI nn)), (2, .int (csF ρ 1 d i)), (3, .int (nI i))]) (fun _ => (0 + 0)) (fun _ => (0 + 0)) nn 0 trivial (by omega) rfl (by rw [show up2 (nsR ρ 1 d 0) 0 7 (nI (d + 0)) = ρ by rw [Nat.add_zero, ← hd]; exact up2_id]) rfl rfl (fun i h0i hi hIi ihi => ?_)
    obtain ⟨ρa, eρa⟩ : ∃ ρz, ρz = up2 (nsR ρ 1 d i) 0 7 (nI (d + i)) := ⟨_, rfl⟩
    rw [← eρa]
    have qd : ρa 0 7 = nI (d + i) := by rw [eρa, up2_s]
    have qm : ∀ j, ρa 13 j = ρ 13 j := fun j => by rw [eρa, up2_k (by omega), nsR_out (k := 13) (by omega)]
    have qc : cmB ρa 1 = cmB (nsR ρ 1 d i) 1 := by rw [eρa, cmB_up]
    refine g_iload_n X dX5_rest_25 3 rfl rfl ?_
    refine g_iload_n X dX5_rest_26 1 rfl rfl ?_
    refine g_icmp_geN X i nn 61 (by omega) (by omega) dX5_rest_27 (by decide) (fun c_6 => ?_) (fun c_6 => ?_)
    · skip
      have hin : i = nn := by omega
      rw [eρa, hin]
      refine g_aload_n X dX5_rest_61 0 rfl rfl ?_
      refine g_getr X 0 (by omega) 8 (by decide) ku_X5 kv_X5 kf_X5_25 rfl lM_o_played dX5_rest_62 ?_
      refine g_iconst X (v := 0) dX5_rest_65 (by decide) ?_
      refine g_mcallSv X (c_J7_fill_53178 l D cy ad _ _ _ ) kl_X5_147 ⟨rfl, rfl, Nat.le_of_ble_eq_true rfl, Nat.le_of_ble_eq_true rfl⟩ rfl rfl (Nat.le_of_ble_eq_true rfl) dX5_rest_66 ⟨Nat.le_of_ble_eq_true rfl, Nat.le_of_ble_eq_true rfl⟩ (fun ρ_7 h_9 => ?_)
      rw [h_9]
      refine g_iload_n X dX5_rest_69 2 rfl rfl ?_
      exact g_iret X hr hlk (by omega) (by omega) dX5_rest_70 (by have hF : resF ρ (nI nn) = (0, csF ρ 1 d nn, resR ρ nn) := (by unfold resF; rw [if_pos ibn, exn, hd, show ix (nI d) = d from nI_clamp (by omega)]); rw [hF]; exact ⟨_, (by unfold resR; rw [hd, hS, show ix (nI d) = d from nI_clamp (by omega), show ix (nI S) = S from nI_clamp (by omega)]; exact rest_eq hS8 hZ), fun _ => rfl⟩)
    · skip
      refine g_iload_n X dX5_rest_30 2 rfl rfl ?_
      refine g_aload_n X dX5_rest_31 0 rfl rfl ?_
      refine g_getr X 0 (by omega) 12 (by decide) ku_X5 kv_X5 kf_X5_38 rfl lM_o_s dX5_rest_32 ?_
      refine g_aload_n X dX5_rest_35 0 rfl rfl ?_
      refine g_getr X 0 (by omega) 9 (by decide) ku_X5 kv_X5 kf_X5_28 rfl lM_o_damp dX5_rest_36 ?_
      refine g_aload_n X dX5_rest_39 0 rfl rfl ?_
      refine g_getr X 0 (by omega) 12 (by decide) ku_X5 kv_X5 kf_X5_38 rfl lM_o_s dX5_rest_40 ?_
      refine g_getiN X (1 + 7) (by omega) 0 (by decide) ku_X4 kv_X4 kn_X5_91 rfl (lM_f_day (isQ7 (Or.inl rfl))) dX5_rest_43 ?_
      rw [rM_day]
      rw [qd]
      refine g_bipush X (v := 7) dX5_rest_46 (by decide) ?_
      refine g_irem X dX5_rest_48 (by decide) ?_
      rw [remN7 (by omega)]
      refine g_ialdN X 7 ((d + i) % 7) (by omega) lM_damp (by omega) (by decide) dX5_rest_49 ?_
      rw [rM_dam (by omega)]
      rw [qm]
      refine g_mcallVi X (1 + 7) (c_X4_rest_s l D cy ad _ _ _ _) kl_X5_144 ⟨rfl, rfl, Nat.le_of_ble_eq_true rfl, Nat.le_of_ble_eq_true rfl⟩ (by omega) (lM_P (isQ7 (Or.inl rfl))) kv_X4 rfl rfl (Nat.le_of_ble_eq_true rfl) dX5_rest_50 ⟨Nat.le_of_ble_eq_true rfl, Nat.le_of_ble_eq_true rfl⟩ (fun r_11 ρ_10 h_12 => ?_)
      obtain ⟨er_11, e9⟩ := h_12
      rw [e9]
      refine g_iadd X dX5_rest_53 ?_
      refine g_istore_n X [(2, .int _), (0, .ref _), (1, .int _), (3, .int _)] dX5_rest_54 rfl (by decide) rfl ?_
      refine g_iincN X i 3 [(3, .int _), (2, .int _), (0, .ref _), (1, .int _)] 3 dX5_rest_55 rfl (by decide) rfl ?_
      refine g_goto X 25 dX5_rest_58 (by decide) ?_
      refine g_ls (ls' := [(0, .ref _), (1, .int _), (2, .int _), (3, .int _)]) [2, 3, 1, 0] rfl ?_
      exact g_eqv (ihi (by omega) trivial) (by subst_vars; simp only [csF]; rw [← qc]) (by rw [qd, eρa, ntR_up, up2_up2]; simp only [nsR]; rw [nI_1]; rfl) rfl rfl
  · skip
    have nb := b10_f c_5
    refine g_aload_n X dX5_rest_15 0 rfl rfl ?_
    refine g_iconst X (v := 1) dX5_rest_16 (by decide) ?_
    refine g_mcallVi X 0 (c_X5_no l D cy ad _ _ _ _) kl_X5_67 ⟨rfl, rfl, Nat.le_of_ble_eq_true rfl, Nat.le_of_ble_eq_true rfl⟩ (by omega) lM_O kv_X5 rfl rfl (Nat.le_of_ble_eq_true rfl) dX5_rest_17 ⟨Nat.le_of_ble_eq_true rfl, Nat.le_of_ble_eq_true rfl⟩ (fun r_14 ρ_13 h_15 => ?_)
    obtain ⟨er_14, e9⟩ := h_15
    rw [e9, er_14]
    exact g_iret X hr hlk (by omega) (by omega) dX5_rest_20 (by have hF : resF ρ x = (1, 0, ρ) := (by unfold resF; rw [if_neg nb]); rw [hF]; exact ⟨_, rfl, fun _ => rfl⟩)

set_option maxHeartbeats 1000000 in
set_option maxRecDepth 100000 in
theorem c_X5_pays (l : Launch) (D : va_G) (cy : Nat → ClassId) (ad : Nat → Nat) (ρ : Nat → Nat → Int32) (th a : Int32) (N T S d : Nat) (hI : Inv ρ N T S d) (x y : Int32) : gMI l yX5_pays cX5_pays 3 (some .int) { frames := 4, cells := 0, slots := 0, locals := 90 } D cy 18 ad (cM ad cy) [.ref (ad 0), .int x, .int y] (rM ρ th a) (fun r μ1 => ∃ a9 : Int32, μ1 = rM (payF ρ x y).2.2 (nI (payF ρ x y).1) a9 ∧ ((payF ρ x y).1 = 0 → r = (payF ρ x y).2.1)) 0 0 := by
  refine gMI_of (ls := [(0, .ref (ad 0)), (1, .int x), (2, .int y)]) RX5 rfl (by decide +kernel) (Nat.le_of_ble_eq_true rfl) rfl ?_
  intro p e s m args below meth c A X hr hlk hnm
  obtain ⟨hT, hT6, hS, hS8, hd, hdN, hN, hTu, hSt, hPi, hZ, hHd⟩ := id hI
  have hwd : wdF ρ = nI (d % 7) := by unfold wdF; rw [hd, nI_clamp (by omega)]
  refine g_aload_n X dX5_pays_0 0 rfl rfl ?_
  refine g_iconst X (v := 0) dX5_pays_1 (by decide) ?_
  refine g_puti X 0 (by omega) 0 (by decide) ku_X5 kv_X5 kf_X5_45 rfl tyX5 tyX5_ok nmX5 rfl (by decide +kernel) lM_o_thrown dX5_pays_2 (fun ρ_1 eρ_1 => ?_)
  rw [eρ_1, wM_thr]
  refine g_aload_n X dX5_pays_5 0 rfl rfl ?_
  refine g_iload_n X dX5_pays_6 1 rfl rfl ?_
  refine g_mcallVi X 0 (c_X5_isStreet l D cy ad _ _ _ _ S hS (by omega)) kl_X5_81 ⟨rfl, rfl, Nat.le_of_ble_eq_true rfl, Nat.le_of_ble_eq_true rfl⟩ (by omega) lM_O kv_X5 rfl rfl (Nat.le_of_ble_eq_true rfl) dX5_pays_7 ⟨Nat.le_of_ble_eq_true rfl, Nat.le_of_ble_eq_true rfl⟩ (fun r_3 ρ_2 h_4 => ?_)
  obtain ⟨er_3, e9⟩ := h_4
  rw [e9, er_3]
  clear e9
  refine g_if_eq X 30 dX5_pays_10 (by decide) (fun c_5 => ?_) (fun c_5 => ?_)
  · skip
    have nb := b10_f c_5
    refine g_aload_n X dX5_pays_30 0 rfl rfl ?_
    refine g_iconst X (v := 1) dX5_pays_31 (by decide) ?_
    refine g_mcallVi X 0 (c_X5_no l D cy ad _ _ _ _) kl_X5_67 ⟨rfl, rfl, Nat.le_of_ble_eq_true rfl, Nat.le_of_ble_eq_true rfl⟩ (by omega) lM_O kv_X5 rfl rfl (Nat.le_of_ble_eq_true rfl) dX5_pays_32 ⟨Nat.le_of_ble_eq_true rfl, Nat.le_of_ble_eq_true rfl⟩ (fun r_7 ρ_6 h_8 => ?_)
    obtain ⟨er_7, e9⟩ := h_8
    rw [e9, er_7]
    exact g_iret X hr hlk (by omega) (by omega) dX5_pays_35 (by have hF : payF ρ x y = (1, 0, ρ) := (by unfold payF; rw [if_neg nb]); rw [hF]; exact ⟨_, rfl, fun _ => rfl⟩)
  · skip
    have ibz := b10_t c_5
    obtain ⟨z, hz, rfl⟩ := inb_N hS (by omega) ibz
    have exz : ix (nI z) = z := nI_clamp (by omega)
    refine g_aload_n X dX5_pays_13 0 rfl rfl ?_
    refine g_iload_n X dX5_pays_14 2 rfl rfl ?_
    refine g_mcallVi X 0 (c_X5_isTune l D cy ad _ _ _ _ T hT (by omega)) kl_X5_71 ⟨rfl, rfl, Nat.le_of_ble_eq_true rfl, Nat.le_of_ble_eq_true rfl⟩ (by omega) lM_O kv_X5 rfl rfl (Nat.le_of_ble_eq_true rfl) dX5_pays_15 ⟨Nat.le_of_ble_eq_true rfl, Nat.le_of_ble_eq_true rfl⟩ (fun r_10 ρ_9 h_11 => ?_)
    obtain ⟨er_10, e9⟩ := h_11
    rw [e9, er_10]
    clear e9
    refine g_if_eq X 30 dX5_pays_18 (by decide) (fun c_12 => ?_) (fun c_12 => ?_)
    · skip
      have nb := b10_f c_12
      refine g_aload_n X dX5_pays_30 0 rfl rfl ?_
      refine g_iconst X (v := 1) dX5_pays_31 (by decide) ?_
      refine g_mcallVi X 0 (c_X5_no l D cy ad _ _ _ _) kl_X5_67 ⟨rfl, rfl, Nat.le_of_ble_eq_true rfl, Nat.le_of_ble_eq_true rfl⟩ (by omega) lM_O kv_X5 rfl rfl (Nat.le_of_ble_eq_true rfl) dX5_pays_32 ⟨Nat.le_of_ble_eq_true rfl, Nat.le_of_ble_eq_true rfl⟩ (fun r_14 ρ_13 h_15 => ?_)
      obtain ⟨er_14, e9⟩ := h_15
      rw [e9, er_14]
      exact g_iret X hr hlk (by omega) (by omega) dX5_pays_35 (by have hF : payF ρ (nI z) y = (1, 0, ρ) := (by unfold payF; rw [if_pos ibz, if_neg nb]); rw [hF]; exact ⟨_, rfl, fun _ => rfl⟩)
    · skip
      have ibt := b10_t c_12
      obtain ⟨t, ht, rfl⟩ := inb_N hT (by omega) ibt
      have ext : ix (nI t) = t := nI_clamp (by omega)
      refine g_aload_n X dX5_pays_21 0 rfl rfl ?_
      refine g_iload_n X dX5_pays_22 1 rfl rfl ?_
      refine g_iload_n X dX5_pays_23 2 rfl rfl ?_
      refine g_mcallVi X 0 (c_X5_paysNow l D cy ad _ _ _ z t (by omega) (by omega) N T S d hI) kl_X5_104 ⟨rfl, rfl, Nat.le_of_ble_eq_true rfl, Nat.le_of_ble_eq_true rfl⟩ (by omega) lM_O kv_X5 rfl rfl (Nat.le_of_ble_eq_true rfl) dX5_pays_24 ⟨Nat.le_of_ble_eq_true rfl, Nat.le_of_ble_eq_true rfl⟩ (fun r_17 ρ_16 h_18 => ?_)
      obtain ⟨er_17, e9⟩ := h_18
      rw [e9, er_17]
      clear e9
      refine g_goto X 35 dX5_pays_27 (by decide) ?_
      exact g_iret X hr hlk (by omega) (by omega) dX5_pays_35 (by have hF : payF ρ (nI z) (nI t) = (0, pyN ρ z t, ρ) := (by unfold payF; rw [if_pos ibz, if_pos ibt, exz, ext]); rw [hF]; exact ⟨_, rfl, fun _ => rfl⟩)

set_option maxHeartbeats 1000000 in
set_option maxRecDepth 100000 in
theorem c_X5_best (l : Launch) (D : va_G) (cy : Nat → ClassId) (ad : Nat → Nat) (ρ : Nat → Nat → Int32) (th a : Int32) (N T S d : Nat) (hI : Inv ρ N T S d) (x : Int32) : gMI l yX5_best cX5_best 6 (some .int) { frames := 4, cells := 0, slots := 0, locals := 90 } D cy 18 ad (cM ad cy) [.ref (ad 0), .int x] (rM ρ th a) (fun r μ1 => ∃ a9 : Int32, μ1 = rM (besF ρ x).2.2 (nI (besF ρ x).1) a9 ∧ ((besF ρ x).1 = 0 → r = (besF ρ x).2.1)) 0 0 := by
  refine gMI_of (ls := [(0, .ref (ad 0)), (1, .int x)]) RX5 rfl (by decide +kernel) (Nat.le_of_ble_eq_true rfl) rfl ?_
  intro p e s m args below meth c A X hr hlk hnm
  obtain ⟨hT, hT6, hS, hS8, hd, hdN, hN, hTu, hSt, hPi, hZ, hHd⟩ := id hI
  have hwd : wdF ρ = nI (d % 7) := by unfold wdF; rw [hd, nI_clamp (by omega)]
  refine g_aload_n X dX5_best_0 0 rfl rfl ?_
  refine g_iconst X (v := 0) dX5_best_1 (by decide) ?_
  refine g_puti X 0 (by omega) 0 (by decide) ku_X5 kv_X5 kf_X5_45 rfl tyX5 tyX5_ok nmX5 rfl (by decide +kernel) lM_o_thrown dX5_best_2 (fun ρ_1 eρ_1 => ?_)
  rw [eρ_1, wM_thr]
  refine g_aload_n X dX5_best_5 0 rfl rfl ?_
  refine g_iload_n X dX5_best_6 1 rfl rfl ?_
  refine g_mcallVi X 0 (c_X5_isStreet l D cy ad _ _ _ _ S hS (by omega)) kl_X5_81 ⟨rfl, rfl, Nat.le_of_ble_eq_true rfl, Nat.le_of_ble_eq_true rfl⟩ (by omega) lM_O kv_X5 rfl rfl (Nat.le_of_ble_eq_true rfl) dX5_best_7 ⟨Nat.le_of_ble_eq_true rfl, Nat.le_of_ble_eq_true rfl⟩ (fun r_3 ρ_2 h_4 => ?_)
  obtain ⟨er_3, e9⟩ := h_4
  rw [e9, er_3]
  clear e9
  refine g_if_ne X 19 dX5_best_10 (by decide) (fun c_5 => ?_) (fun c_5 => ?_)
  · skip
    have ibz := b10_t c_5
    obtain ⟨z, hz, rfl⟩ := inb_N hS (by omega) ibz
    have exz : ix (nI z) = z := nI_clamp (by omega)
    refine g_iconst X (v := -1) dX5_best_19 (by decide) ?_
    refine g_istore_n X [(2, .int _), (0, .ref _), (1, .int _)] dX5_best_20 rfl (by decide) rfl ?_
    refine g_iconst X (v := 0) dX5_best_21 (by decide) ?_
    refine g_istore_n X [(3, .int _), (2, .int _), (0, .ref _), (1, .int _)] dX5_best_22 rfl (by decide) rfl ?_
    refine g_iconst X (v := 0) dX5_best_23 (by decide) ?_
    refine g_istore X [(4, .int _), (3, .int _), (2, .int _), (0, .ref _), (1, .int _)] dX5_best_24 (by decide) rfl ?_
    refine g_ls (ls' := [(0, .ref _), (1, .int _), (2, .int _), (3, .int _), (4, .int _)]) [3, 4, 2, 1, 0] rfl ?_
    refine g_loop (fun _ => True) (fun _ => rM ρ 0 a) (fun i => [(0, .ref (ad 0)), (1, .int (nI z)), (2, .int (bsP ρ z i).2), (3, .int (bsP ρ z i).1), (4, .int (nI i))]) (fun _ => (0 + 0)) (fun _ => (0 + 0)) T 0 trivial (by omega) rfl rfl rfl rfl (fun i h0i hi hIi ihi => ?_)
    refine g_iload X dX5_best_26 4 rfl ?_
    refine g_aload_n X dX5_best_28 0 rfl rfl ?_
    refine g_geti X 0 (by omega) 1 (by decide) ku_X5 kv_X5 kf_X5_57 rfl lM_o_tunes dX5_best_29 ?_
    rw [rM_tun, hT]
    refine g_icmp_geN X i T 65 (by omega) (by omega) dX5_best_32 (by decide) (fun c_6 => ?_) (fun c_6 => ?_)
    · skip
      refine g_iload_n X dX5_best_65 2 rfl rfl ?_
      exact g_iret X hr hlk (by omega) (by omega) dX5_best_66 (by have hF : besF ρ (nI z) = (0, (bsP ρ z i).2, ρ) := (by unfold besF; rw [if_pos ibz, exz, hT, show ix (nI T) = i by rw [show i = T by omega]; exact nI_clamp (by omega)]); rw [hF]; exact ⟨_, rfl, fun _ => rfl⟩)
    · skip
      refine g_aload_n X dX5_best_35 0 rfl rfl ?_
      refine g_iload_n X dX5_best_36 1 rfl rfl ?_
      refine g_iload X dX5_best_37 4 rfl ?_
      refine g_mcallVi X 0 (c_X5_paysNow l D cy ad _ _ _ z i (by omega) (by omega) N T S d hI) kl_X5_104 ⟨rfl, rfl, Nat.le_of_ble_eq_true rfl, Nat.le_of_ble_eq_true rfl⟩ (by omega) lM_O kv_X5 rfl rfl (Nat.le_of_ble_eq_true rfl) dX5_best_39 ⟨Nat.le_of_ble_eq_true rfl, Nat.le_of_ble_eq_true rfl⟩ (fun r_8 ρ_7 h_9 => ?_)
      obtain ⟨er_8, e9⟩ := h_9
      rw [e9, er_8]
      clear e9
      refine g_istore X [(5, .int _), (0, .ref _), (1, .int _), (2, .int _), (3, .int _), (4, .int _)] dX5_best_42 (by decide) rfl ?_
      refine g_iload X dX5_best_44 0 rfl ?_
      refine g_iload_n X dX5_best_46 4 rfl rfl ?_
      refine g_icmp_gt X 53 dX5_best_47 (by decide) (fun c_10 => ?_) (fun c_10 => ?_)
      · skip
        have cQ := Int32.not_le.mpr c_10
        refine g_iload X dX5_best_53 0 rfl ?_
        refine g_istore_n X [(3, .int _), (5, .int _), (0, .ref _), (1, .int _), (2, .int _), (4, .int _)] dX5_best_55 rfl (by decide) rfl ?_
        refine g_iload X dX5_best_56 5 rfl ?_
        refine g_istore_n X [(2, .int _), (3, .int _), (5, .int _), (0, .ref _), (1, .int _), (4, .int _)] dX5_best_58 rfl (by decide) rfl ?_
        refine g_iincN X i 4 [(4, .int _), (2, .int _), (3, .int _), (5, .int _), (0, .ref _), (1, .int _)] 5 dX5_best_59 rfl (by decide) rfl ?_
        refine g_goto X 26 dX5_best_62 (by decide) ?_
        refine g_ls (ls' := [(0, .ref _), (1, .int _), (2, .int _), (3, .int _), (4, .int _)]) [4, 5, 1, 2, 0] rfl ?_
        exact g_eqv (ihi (by omega) trivial) (by simp only [bsP]; first | rw [if_pos cQ] | rw [if_neg cQ]) (rfl) rfl rfl
      · skip
        have cQ := Int32.not_lt.mp c_10
        refine g_goto X 59 dX5_best_50 (by decide) ?_
        refine g_iincN X i 4 [(4, .int _), (5, .int _), (0, .ref _), (1, .int _), (2, .int _), (3, .int _)] 5 dX5_best_59 rfl (by decide) rfl ?_
        refine g_goto X 26 dX5_best_62 (by decide) ?_
        refine g_ls (ls' := [(0, .ref _), (1, .int _), (2, .int _), (3, .int _), (4, .int _)]) [2, 3, 4, 5, 0] rfl ?_
        exact g_eqv (ihi (by omega) trivial) (by simp only [bsP]; first | rw [if_pos cQ] | rw [if_neg cQ]) (rfl) rfl rfl
  · skip
    have nb := b10_f c_5
    refine g_aload_n X dX5_best_13 0 rfl rfl ?_
    refine g_iconst X (v := 1) dX5_best_14 (by decide) ?_
    refine g_mcallVi X 0 (c_X5_no l D cy ad _ _ _ _) kl_X5_67 ⟨rfl, rfl, Nat.le_of_ble_eq_true rfl, Nat.le_of_ble_eq_true rfl⟩ (by omega) lM_O kv_X5 rfl rfl (Nat.le_of_ble_eq_true rfl) dX5_best_15 ⟨Nat.le_of_ble_eq_true rfl, Nat.le_of_ble_eq_true rfl⟩ (fun r_12 ρ_11 h_13 => ?_)
    obtain ⟨er_12, e9⟩ := h_13
    rw [e9, er_12]
    exact g_iret X hr hlk (by omega) (by omega) dX5_best_18 (by have hF : besF ρ x = (1, 0, ρ) := (by unfold besF; rw [if_neg nb]); rw [hF]; exact ⟨_, rfl, fun _ => rfl⟩)

set_option maxHeartbeats 1000000 in
set_option maxRecDepth 100000 in
theorem c_X5_worst (l : Launch) (D : va_G) (cy : Nat → ClassId) (ad : Nat → Nat) (ρ : Nat → Nat → Int32) (th a : Int32) (N T S d : Nat) (hI : Inv ρ N T S d) (x : Int32) : gMI l yX5_worst cX5_worst 6 (some .int) { frames := 3, cells := 0, slots := 0, locals := 68 } D cy 18 ad (cM ad cy) [.ref (ad 0), .int x] (rM ρ th a) (fun r μ1 => ∃ a9 : Int32, μ1 = rM (worF ρ x).2.2 (nI (worF ρ x).1) a9 ∧ ((worF ρ x).1 = 0 → r = (worF ρ x).2.1)) 0 0 := by
  refine gMI_of (ls := [(0, .ref (ad 0)), (1, .int x)]) RX5 rfl (by decide +kernel) (Nat.le_of_ble_eq_true rfl) rfl ?_
  intro p e s m args below meth c A X hr hlk hnm
  obtain ⟨hT, hT6, hS, hS8, hd, hdN, hN, hTu, hSt, hPi, hZ, hHd⟩ := id hI
  have hwd : wdF ρ = nI (d % 7) := by unfold wdF; rw [hd, nI_clamp (by omega)]
  refine g_aload_n X dX5_worst_0 0 rfl rfl ?_
  refine g_iconst X (v := 0) dX5_worst_1 (by decide) ?_
  refine g_puti X 0 (by omega) 0 (by decide) ku_X5 kv_X5 kf_X5_45 rfl tyX5 tyX5_ok nmX5 rfl (by decide +kernel) lM_o_thrown dX5_worst_2 (fun ρ_1 eρ_1 => ?_)
  rw [eρ_1, wM_thr]
  refine g_aload_n X dX5_worst_5 0 rfl rfl ?_
  refine g_iload_n X dX5_worst_6 1 rfl rfl ?_
  refine g_mcallVi X 0 (c_X5_isTune l D cy ad _ _ _ _ T hT (by omega)) kl_X5_71 ⟨rfl, rfl, Nat.le_of_ble_eq_true rfl, Nat.le_of_ble_eq_true rfl⟩ (by omega) lM_O kv_X5 rfl rfl (Nat.le_of_ble_eq_true rfl) dX5_worst_7 ⟨Nat.le_of_ble_eq_true rfl, Nat.le_of_ble_eq_true rfl⟩ (fun r_3 ρ_2 h_4 => ?_)
  obtain ⟨er_3, e9⟩ := h_4
  rw [e9, er_3]
  clear e9
  refine g_if_ne X 19 dX5_worst_10 (by decide) (fun c_5 => ?_) (fun c_5 => ?_)
  · skip
    have ibt := b10_t c_5
    obtain ⟨t, ht, rfl⟩ := inb_N hT (by omega) ibt
    have ext : ix (nI t) = t := nI_clamp (by omega)
    refine g_iconst X (v := -1) dX5_worst_19 (by decide) ?_
    refine g_istore_n X [(2, .int _), (0, .ref _), (1, .int _)] dX5_worst_20 rfl (by decide) rfl ?_
    refine g_aload_n X dX5_worst_21 1 rfl rfl ?_
    refine g_iload_n X dX5_worst_22 2 rfl rfl ?_
    refine g_aload_n X dX5_worst_23 1 rfl rfl ?_
    refine g_getr X 0 (by omega) 12 (by decide) ku_X5 kv_X5 kf_X5_38 rfl lM_o_s dX5_worst_24 ?_
    refine g_iconst X (v := -1) dX5_worst_27 (by decide) ?_
    refine g_mcallVi X 0 (c_X5_soundOf l D cy ad _ _ _ t 1 _ (by omega) (Or.inl rfl) (hTu _ (by omega)) (fun i hi => (hPi i hi).2.2.1)) kl_X5_87 ⟨rfl, rfl, Nat.le_of_ble_eq_true rfl, Nat.le_of_ble_eq_true rfl⟩ (by omega) lM_O kv_X5 rfl rfl (Nat.le_of_ble_eq_true rfl) dX5_worst_28 ⟨Nat.le_of_ble_eq_true rfl, Nat.le_of_ble_eq_true rfl⟩ (fun r_7 ρ_6 h_8 => ?_)
    obtain ⟨er_7, e9⟩ := h_8
    rw [e9, er_7]
    clear e9
    refine g_istore_n X [(3, .int _), (2, .int _), (0, .ref _), (1, .int _)] dX5_worst_31 rfl (by decide) rfl ?_
    refine g_iconst X (v := 0) dX5_worst_32 (by decide) ?_
    refine g_istore X [(4, .int _), (3, .int _), (2, .int _), (0, .ref _), (1, .int _)] dX5_worst_33 (by decide) rfl ?_
    refine g_ls (ls' := [(0, .ref _), (1, .int _), (2, .int _), (3, .int _), (4, .int _)]) [3, 4, 2, 1, 0] rfl ?_
    refine g_loop (fun _ => True) (fun _ => rM ρ 0 a) (fun i => [(0, .ref (ad 0)), (1, .int (nI t)), (2, .int (wsP ρ t i).2), (3, .int (wsP ρ t i).1), (4, .int (nI i))]) (fun _ => ((0 + 0) + 0)) (fun _ => ((0 + 0) + 0)) 12 0 trivial (by omega) rfl rfl rfl rfl (fun i h0i hi hIi ihi => ?_)
    refine g_iload X dX5_worst_35 4 rfl ?_
    refine g_bipush X (v := 12) dX5_worst_37 (by decide) ?_
    refine g_icmp_geN X i 12 76 (by omega) (by omega) dX5_worst_39 (by decide) (fun c_9 => ?_) (fun c_9 => ?_)
    · skip
      refine g_iload_n X dX5_worst_76 2 rfl rfl ?_
      exact g_iret X hr hlk (by omega) (by omega) dX5_worst_77 (by have hF : worF ρ (nI t) = (0, (wsP ρ t 12).2, ρ) := (by unfold worF; rw [if_pos ibt, ext]); rw [hF]; exact ⟨_, rfl, fun _ => (by rw [show i = 12 by omega])⟩)
    · skip
      refine g_aload_n X dX5_worst_42 0 rfl rfl ?_
      refine g_iload_n X dX5_worst_43 1 rfl rfl ?_
      refine g_aload_n X dX5_worst_44 0 rfl rfl ?_
      refine g_getr X 0 (by omega) 12 (by decide) ku_X5 kv_X5 kf_X5_38 rfl lM_o_s dX5_worst_45 ?_
      refine g_iload X dX5_worst_48 4 rfl ?_
      refine g_mcallVi X 0 (c_X5_soundOf l D cy ad _ _ _ t 1 _ (by omega) (Or.inl rfl) (hTu _ (by omega)) (fun i hi => (hPi i hi).2.2.1)) kl_X5_87 ⟨rfl, rfl, Nat.le_of_ble_eq_true rfl, Nat.le_of_ble_eq_true rfl⟩ (by omega) lM_O kv_X5 rfl rfl (Nat.le_of_ble_eq_true rfl) dX5_worst_50 ⟨Nat.le_of_ble_eq_true rfl, Nat.le_of_ble_eq_true rfl⟩ (fun r_11 ρ_10 h_12 => ?_)
      obtain ⟨er_11, e9⟩ := h_12
      rw [e9, er_11]
      clear e9
      refine g_istore X [(5, .int _), (0, .ref _), (1, .int _), (2, .int _), (3, .int _), (4, .int _)] dX5_worst_53 (by decide) rfl ?_
      refine g_iload X dX5_worst_55 0 rfl ?_
      refine g_iload_n X dX5_worst_57 4 rfl rfl ?_
      refine g_icmp_gt X 64 dX5_worst_58 (by decide) (fun c_13 => ?_) (fun c_13 => ?_)
      · skip
        have cQ := Int32.not_le.mpr c_13
        refine g_iload X dX5_worst_64 0 rfl ?_
        refine g_istore_n X [(3, .int _), (5, .int _), (0, .ref _), (1, .int _), (2, .int _), (4, .int _)] dX5_worst_66 rfl (by decide) rfl ?_
        refine g_iload X dX5_worst_67 5 rfl ?_
        refine g_istore_n X [(2, .int _), (3, .int _), (5, .int _), (0, .ref _), (1, .int _), (4, .int _)] dX5_worst_69 rfl (by decide) rfl ?_
        refine g_iincN X i 4 [(4, .int _), (2, .int _), (3, .int _), (5, .int _), (0, .ref _), (1, .int _)] 5 dX5_worst_70 rfl (by decide) rfl ?_
        refine g_goto X 35 dX5_worst_73 (by decide) ?_
        refine g_ls (ls' := [(0, .ref _), (1, .int _), (2, .int _), (3, .int _), (4, .int _)]) [4, 5, 1, 2, 0] rfl ?_
        exact g_eqv (ihi (by omega) trivial) (by simp only [wsP]; first | rw [if_pos cQ] | rw [if_neg cQ]) (rfl) rfl rfl
      · skip
        have cQ := Int32.not_lt.mp c_13
        refine g_goto X 70 dX5_worst_61 (by decide) ?_
        refine g_iincN X i 4 [(4, .int _), (5, .int _), (0, .ref _), (1, .int _), (2, .int _), (3, .int _)] 5 dX5_worst_70 rfl (by decide) rfl ?_
        refine g_goto X 35 dX5_worst_73 (by decide) ?_
        refine g_ls (ls' := [(0, .ref _), (1, .int _), (2, .int _), (3, .int _), (4, .int _)]) [2, 3, 4, 5, 0] rfl ?_
        exact g_eqv (ihi (by omega) trivial) (by simp only [wsP]; first | rw [if_pos cQ] | rw [if_neg cQ]) (rfl) rfl rfl
  · skip
    have nb := b10_f c_5
    refine g_aload_n X dX5_worst_13 0 rfl rfl ?_
    refine g_iconst X (v := 1) dX5_worst_14 (by decide) ?_
    refine g_mcallVi X 0 (c_X5_no l D cy ad _ _ _ _) kl_X5_67 ⟨rfl, rfl, Nat.le_of_ble_eq_true rfl, Nat.le_of_ble_eq_true rfl⟩ (by omega) lM_O kv_X5 rfl rfl (Nat.le_of_ble_eq_true rfl) dX5_worst_15 ⟨Nat.le_of_ble_eq_true rfl, Nat.le_of_ble_eq_true rfl⟩ (fun r_15 ρ_14 h_16 => ?_)
    obtain ⟨er_15, e9⟩ := h_16
    rw [e9, er_15]
    exact g_iret X hr hlk (by omega) (by omega) dX5_worst_18 (by have hF : worF ρ x = (1, 0, ρ) := (by unfold worF; rw [if_neg nb]); rw [hF]; exact ⟨_, rfl, fun _ => rfl⟩)

set_option maxHeartbeats 1000000 in
set_option maxRecDepth 100000 in
theorem c_X5_foresee (l : Launch) (D : va_G) (cy : Nat → ClassId) (ad : Nat → Nat) (ρ : Nat → Nat → Int32) (th a : Int32) (N T S d : Nat) (hI : Inv ρ N T S d) (x y : Int32) : gMI l yX5_foresee cX5_foresee 4 (some .int) { frames := 3, cells := 0, slots := 0, locals := 64 } D cy 18 ad (cM ad cy) [.ref (ad 0), .int x, .int y] (rM ρ th a) (fun r μ1 => ∃ a9 : Int32, μ1 = rM (forF ρ x y).2.2 (nI (forF ρ x y).1) a9 ∧ ((forF ρ x y).1 = 0 → r = (forF ρ x y).2.1)) 0 0 := by
  refine gMI_of (ls := [(0, .ref (ad 0)), (1, .int x), (2, .int y)]) RX5 rfl (by decide +kernel) (Nat.le_of_ble_eq_true rfl) rfl ?_
  intro p e s m args below meth c A X hr hlk hnm
  obtain ⟨hT, hT6, hS, hS8, hd, hdN, hN, hTu, hSt, hPi, hZ, hHd⟩ := id hI
  have hwd : wdF ρ = nI (d % 7) := by unfold wdF; rw [hd, nI_clamp (by omega)]
  refine g_aload_n X dX5_foresee_0 0 rfl rfl ?_
  refine g_iconst X (v := 0) dX5_foresee_1 (by decide) ?_
  refine g_puti X 0 (by omega) 0 (by decide) ku_X5 kv_X5 kf_X5_45 rfl tyX5 tyX5_ok nmX5 rfl (by decide +kernel) lM_o_thrown dX5_foresee_2 (fun ρ_1 eρ_1 => ?_)
  rw [eρ_1, wM_thr]
  refine g_iload_n X dX5_foresee_5 1 rfl rfl ?_
  refine g_iconst X (v := 1) dX5_foresee_6 (by decide) ?_
  refine g_bipush X (v := 60) dX5_foresee_7 (by decide) ?_
  refine g_mcallSi X (c_X5_isIn l D cy ad _ _ _ _ _ _) kl_X5_60 ⟨rfl, rfl, Nat.le_of_ble_eq_true rfl, Nat.le_of_ble_eq_true rfl⟩ rfl rfl (Nat.le_of_ble_eq_true rfl) dX5_foresee_9 ⟨Nat.le_of_ble_eq_true rfl, Nat.le_of_ble_eq_true rfl⟩ (fun r_3 ρ_2 h_4 => ?_)
  obtain ⟨er_3, e9⟩ := h_4
  rw [e9, er_3]
  clear e9
  rw [show isI x 1 60 = (if ¬ x < 1 ∧ x ≤ 60 then 1 else 0) from rfl]
  refine g_if_ne X 21 dX5_foresee_12 (by decide) (fun c_5 => ?_) (fun c_5 => ?_)
  · skip
    have ibn := b10_t c_5
    obtain ⟨nn, hnn, rfl⟩ := nig_N ibn
    have exn : ix (nI nn) = nn := nI_clamp (by omega)
    refine g_iload_n X dX5_foresee_21 2 rfl rfl ?_
    refine g_iconst X (v := 5) dX5_foresee_22 (by decide) ?_
    refine g_bipush X (v := 7) dX5_foresee_23 (by decide) ?_
    refine g_mcallSi X (c_X5_isIn l D cy ad _ _ _ _ _ _) kl_X5_60 ⟨rfl, rfl, Nat.le_of_ble_eq_true rfl, Nat.le_of_ble_eq_true rfl⟩ rfl rfl (Nat.le_of_ble_eq_true rfl) dX5_foresee_25 ⟨Nat.le_of_ble_eq_true rfl, Nat.le_of_ble_eq_true rfl⟩ (fun r_7 ρ_6 h_8 => ?_)
    obtain ⟨er_7, e9⟩ := h_8
    rw [e9, er_7]
    clear e9
    rw [show isI y 5 7 = (if ¬ y < 5 ∧ y ≤ 7 then 1 else 0) from rfl]
    refine g_if_ne X 37 dX5_foresee_28 (by decide) (fun c_9 => ?_) (fun c_9 => ?_)
    · skip
      have ibw := b10_t c_9
      obtain ⟨k, hk, rfl⟩ := fs_N ibw
      have exk : ix (nI k) = k := nI_clamp (by omega)
      refine g_aload_n X dX5_foresee_37 0 rfl rfl ?_
      refine g_getr X 0 (by omega) 13 (by decide) ku_X5 kv_X5 kf_X5_42 rfl lM_o_ahead dX5_foresee_38 ?_
      refine g_aload_n X dX5_foresee_41 0 rfl rfl ?_
      refine g_getr X 0 (by omega) 12 (by decide) ku_X5 kv_X5 kf_X5_38 rfl lM_o_s dX5_foresee_42 ?_
      refine g_mcallVv X (6 + 7) (c_X4_become l D cy ad _ _ _ ) kl_X5_153 ⟨rfl, rfl, Nat.le_of_ble_eq_true rfl, Nat.le_of_ble_eq_true rfl⟩ (by omega) (lM_P (isQ7 (Or.inr rfl))) kv_X4 rfl rfl (Nat.le_of_ble_eq_true rfl) dX5_foresee_45 ⟨Nat.le_of_ble_eq_true rfl, Nat.le_of_ble_eq_true rfl⟩ (fun ρ_10 h_12 => ?_)
      rw [h_12]
      refine g_iconst X (v := 0) dX5_foresee_48 (by decide) ?_
      refine g_istore_n X [(3, .int _), (0, .ref _), (1, .int _), (2, .int _)] dX5_foresee_49 rfl (by decide) rfl ?_
      rw [hd]
      refine g_ls (ls' := [(0, .ref _), (1, .int _), (2, .int _), (3, .int _)]) [1, 2, 3, 0] rfl ?_
      refine g_loop (fun _ => True) (fun i => rM (nsR (becR ρ 12) 6 d i) 0 (nI (d + i))) (fun i => [(0, .ref (ad 0)), (1, .int (nI nn)), (2, .int (nI k)), (3, .int (nI i))]) (fun _ => (((0 + 0) + 0) + 0)) (fun _ => (((0 + 0) + 0) + 0)) nn 0 trivial (by omega) rfl rfl rfl rfl (fun i h0i hi hIi ihi => ?_)
      obtain ⟨ρa, eρa⟩ : ∃ ρz, ρz = nsR (becR ρ 12) 6 d i := ⟨_, rfl⟩
      rw [← eρa]
      have qm : ∀ j, ρa 13 j = becR ρ 12 13 j := fun j => by rw [eρa, nsR_out (k := 13) (by omega)]
      refine g_iload_n X dX5_foresee_50 3 rfl rfl ?_
      refine g_iload_n X dX5_foresee_51 1 rfl rfl ?_
      refine g_icmp_geN X i nn 84 (by omega) (by omega) dX5_foresee_52 (by decide) (fun c_13 => ?_) (fun c_13 => ?_)
      · skip
        have hin : i = nn := by omega
        have h6c : ∀ i9, i9 < 12 → ρa (6 + 3) i9 = 0 ∨ ρa (6 + 3) i9 = 1 := fun i9 h9 => by rw [eρa]; exact (ns_pip (bec_pip (hPi i9 h9) h9)).2.2.1
        have hFF : forF ρ (nI nn) (nI k) = (0, sumUpF ρa 6 k, ρa) := by unfold forF; rw [if_pos ibn, if_pos ibw, exn, exk]; unfold forR; rw [hd, show ix (nI d) = d from nI_clamp (by omega), eρa, hin]
        refine g_iload_n X dX5_foresee_84 2 rfl rfl ?_
        refine g_iconst X (v := 5) dX5_foresee_85 (by decide) ?_
        refine g_icmp_neN X k 5 99 (by omega) (by omega) dX5_foresee_86 (by decide) (fun c_14 => ?_) (fun c_14 => ?_)
        · skip
          refine g_iload_n X dX5_foresee_99 2 rfl rfl ?_
          refine g_bipush X (v := 6) dX5_foresee_100 (by decide) ?_
          refine g_icmp_neN X k 6 115 (by omega) (by omega) dX5_foresee_102 (by decide) (fun c_15 => ?_) (fun c_15 => ?_)
          · skip
            refine g_aload_n X dX5_foresee_115 0 rfl rfl ?_
            refine g_getr X 0 (by omega) 13 (by decide) ku_X5 kv_X5 kf_X5_42 rfl lM_o_ahead dX5_foresee_116 ?_
            refine g_mcallVi X (6 + 7) (c_X4_allOff l D cy ad _ _ _ 6 (Or.inr rfl)) kl_X5_138 ⟨rfl, rfl, Nat.le_of_ble_eq_true rfl, Nat.le_of_ble_eq_true rfl⟩ (by omega) (lM_P (isQ7 (Or.inr rfl))) kv_X4 rfl rfl (Nat.le_of_ble_eq_true rfl) dX5_foresee_119 ⟨Nat.le_of_ble_eq_true rfl, Nat.le_of_ble_eq_true rfl⟩ (fun r_17 ρ_16 h_18 => ?_)
            obtain ⟨er_17, e9⟩ := h_18
            rw [e9, er_17]
            clear e9
            exact g_iret X hr hlk (by omega) (by omega) dX5_foresee_122 (by rw [hFF]; exact ⟨_, rfl, fun _ => by show _ = sumUpF ρa 6 k; unfold sumUpF; rw [if_neg (by omega), if_neg (by omega)]⟩)
          · skip
            refine g_aload_n X dX5_foresee_105 0 rfl rfl ?_
            refine g_getr X 0 (by omega) 13 (by decide) ku_X5 kv_X5 kf_X5_42 rfl lM_o_ahead dX5_foresee_106 ?_
            refine g_mcallVi X (6 + 7) (c_X4_allWorn l D cy ad _ _ _ 6 (Or.inr rfl)) kl_X5_135 ⟨rfl, rfl, Nat.le_of_ble_eq_true rfl, Nat.le_of_ble_eq_true rfl⟩ (by omega) (lM_P (isQ7 (Or.inr rfl))) kv_X4 rfl rfl (Nat.le_of_ble_eq_true rfl) dX5_foresee_109 ⟨Nat.le_of_ble_eq_true rfl, Nat.le_of_ble_eq_true rfl⟩ (fun r_20 ρ_19 h_21 => ?_)
            obtain ⟨er_20, e9⟩ := h_21
            rw [e9, er_20]
            clear e9
            refine g_goto X 122 dX5_foresee_112 (by decide) ?_
            exact g_iret X hr hlk (by omega) (by omega) dX5_foresee_122 (by rw [hFF]; exact ⟨_, rfl, fun _ => by show _ = sumUpF ρa 6 k; unfold sumUpF; rw [if_neg (by omega), if_pos (by omega)]⟩)
        · skip
          refine g_aload_n X dX5_foresee_89 0 rfl rfl ?_
          refine g_getr X 0 (by omega) 13 (by decide) ku_X5 kv_X5 kf_X5_42 rfl lM_o_ahead dX5_foresee_90 ?_
          refine g_mcallVi X (6 + 7) (c_X4_crickets l D cy ad _ _ _ 6 (Or.inr rfl) h6c) kl_X5_119 ⟨rfl, rfl, Nat.le_of_ble_eq_true rfl, Nat.le_of_ble_eq_true rfl⟩ (by omega) (lM_P (isQ7 (Or.inr rfl))) kv_X4 rfl rfl (Nat.le_of_ble_eq_true rfl) dX5_foresee_93 ⟨Nat.le_of_ble_eq_true rfl, Nat.le_of_ble_eq_true rfl⟩ (fun r_23 ρ_22 h_24 => ?_)
          obtain ⟨er_23, e9⟩ := h_24
          rw [e9, er_23]
          clear e9
          refine g_goto X 122 dX5_foresee_96 (by decide) ?_
          exact g_iret X hr hlk (by omega) (by omega) dX5_foresee_122 (by rw [hFF]; exact ⟨_, rfl, fun _ => by show _ = sumUpF ρa 6 k; unfold sumUpF; rw [if_pos (by omega)]⟩)
      · skip
        refine g_aload_n X dX5_foresee_55 0 rfl rfl ?_
        refine g_getr X 0 (by omega) 13 (by decide) ku_X5 kv_X5 kf_X5_42 rfl lM_o_ahead dX5_foresee_56 ?_
        refine g_aload_n X dX5_foresee_59 0 rfl rfl ?_
        refine g_getr X 0 (by omega) 9 (by decide) ku_X5 kv_X5 kf_X5_28 rfl lM_o_damp dX5_foresee_60 ?_
        refine g_aload_n X dX5_foresee_63 0 rfl rfl ?_
        refine g_getr X 0 (by omega) 13 (by decide) ku_X5 kv_X5 kf_X5_42 rfl lM_o_ahead dX5_foresee_64 ?_
        refine g_getiN X (6 + 7) (by omega) 0 (by decide) ku_X4 kv_X4 kn_X5_91 rfl (lM_f_day (isQ7 (Or.inr rfl))) dX5_foresee_67 ?_
        rw [rM_day2]
        skip
        refine g_bipush X (v := 7) dX5_foresee_70 (by decide) ?_
        refine g_irem X dX5_foresee_72 (by decide) ?_
        rw [remN7 (by omega)]
        refine g_ialdN X 7 ((d + i) % 7) (by omega) lM_damp (by omega) (by decide) dX5_foresee_73 ?_
        rw [rM_dam (by omega)]
        rw [qm]
        refine g_mcallVi X (6 + 7) (c_X4_rest_a l D cy ad _ _ _ _) kl_X5_144 ⟨rfl, rfl, Nat.le_of_ble_eq_true rfl, Nat.le_of_ble_eq_true rfl⟩ (by omega) (lM_P (isQ7 (Or.inr rfl))) kv_X4 rfl rfl (Nat.le_of_ble_eq_true rfl) dX5_foresee_74 ⟨Nat.le_of_ble_eq_true rfl, Nat.le_of_ble_eq_true rfl⟩ (fun r_26 ρ_25 h_27 => ?_)
        obtain ⟨er_26, e9⟩ := h_27
        rw [e9]
        refine g_pop X dX5_foresee_77 rfl ?_
        refine g_iincN X i 3 [(3, .int _), (0, .ref _), (1, .int _), (2, .int _)] 3 dX5_foresee_78 rfl (by decide) rfl ?_
        refine g_goto X 50 dX5_foresee_81 (by decide) ?_
        refine g_ls (ls' := [(0, .ref _), (1, .int _), (2, .int _), (3, .int _)]) [1, 2, 3, 0] rfl ?_
        exact g_eqv (ihi (by omega) trivial) (rfl) (by subst_vars; rw [nI_1]; rfl) rfl rfl
    · skip
      have nb := b10_f c_9
      refine g_aload_n X dX5_foresee_31 0 rfl rfl ?_
      refine g_iconst X (v := 2) dX5_foresee_32 (by decide) ?_
      refine g_mcallVi X 0 (c_X5_no l D cy ad _ _ _ _) kl_X5_67 ⟨rfl, rfl, Nat.le_of_ble_eq_true rfl, Nat.le_of_ble_eq_true rfl⟩ (by omega) lM_O kv_X5 rfl rfl (Nat.le_of_ble_eq_true rfl) dX5_foresee_33 ⟨Nat.le_of_ble_eq_true rfl, Nat.le_of_ble_eq_true rfl⟩ (fun r_29 ρ_28 h_30 => ?_)
      obtain ⟨er_29, e9⟩ := h_30
      rw [e9, er_29]
      exact g_iret X hr hlk (by omega) (by omega) dX5_foresee_36 (by have hF : forF ρ (nI nn) y = (2, 0, ρ) := (by unfold forF; rw [if_pos ibn, if_neg nb]); rw [hF]; exact ⟨_, rfl, fun _ => rfl⟩)
  · skip
    have nb := b10_f c_5
    refine g_aload_n X dX5_foresee_15 0 rfl rfl ?_
    refine g_iconst X (v := 1) dX5_foresee_16 (by decide) ?_
    refine g_mcallVi X 0 (c_X5_no l D cy ad _ _ _ _) kl_X5_67 ⟨rfl, rfl, Nat.le_of_ble_eq_true rfl, Nat.le_of_ble_eq_true rfl⟩ (by omega) lM_O kv_X5 rfl rfl (Nat.le_of_ble_eq_true rfl) dX5_foresee_17 ⟨Nat.le_of_ble_eq_true rfl, Nat.le_of_ble_eq_true rfl⟩ (fun r_32 ρ_31 h_33 => ?_)
    obtain ⟨er_32, e9⟩ := h_33
    rw [e9, er_32]
    exact g_iret X hr hlk (by omega) (by omega) dX5_foresee_20 (by have hF : forF ρ x y = (1, 0, ρ) := (by unfold forF; rw [if_neg nb]); rw [hF]; exact ⟨_, rfl, fun _ => rfl⟩)

set_option maxHeartbeats 1000000 in
set_option maxRecDepth 100000 in
theorem c_X5_lasts (l : Launch) (D : va_G) (cy : Nat → ClassId) (ad : Nat → Nat) (ρ : Nat → Nat → Int32) (th a : Int32) (N T S d : Nat) (hI : Inv ρ N T S d) (x : Int32) : gMI l yX5_lasts cX5_lasts 3 (some .int) { frames := 3, cells := 0, slots := 0, locals := 68 } D cy 18 ad (cM ad cy) [.ref (ad 0), .int x] (rM ρ th a) (fun r μ1 => ∃ a9 : Int32, μ1 = rM (lasF ρ x).2.2 (nI (lasF ρ x).1) a9 ∧ ((lasF ρ x).1 = 0 → r = (lasF ρ x).2.1)) 0 0 := by
  refine gMI_of (ls := [(0, .ref (ad 0)), (1, .int x)]) RX5 rfl (by decide +kernel) (Nat.le_of_ble_eq_true rfl) rfl ?_
  intro p e s m args below meth c A X hr hlk hnm
  obtain ⟨hT, hT6, hS, hS8, hd, hdN, hN, hTu, hSt, hPi, hZ, hHd⟩ := id hI
  have hwd : wdF ρ = nI (d % 7) := by unfold wdF; rw [hd, nI_clamp (by omega)]
  refine g_aload_n X dX5_lasts_0 0 rfl rfl ?_
  refine g_iconst X (v := 0) dX5_lasts_1 (by decide) ?_
  refine g_puti X 0 (by omega) 0 (by decide) ku_X5 kv_X5 kf_X5_45 rfl tyX5 tyX5_ok nmX5 rfl (by decide +kernel) lM_o_thrown dX5_lasts_2 (fun ρ_1 eρ_1 => ?_)
  rw [eρ_1, wM_thr]
  refine g_aload_n X dX5_lasts_5 0 rfl rfl ?_
  refine g_iload_n X dX5_lasts_6 1 rfl rfl ?_
  refine g_mcallVi X 0 (c_X5_isTune l D cy ad _ _ _ _ T hT (by omega)) kl_X5_71 ⟨rfl, rfl, Nat.le_of_ble_eq_true rfl, Nat.le_of_ble_eq_true rfl⟩ (by omega) lM_O kv_X5 rfl rfl (Nat.le_of_ble_eq_true rfl) dX5_lasts_7 ⟨Nat.le_of_ble_eq_true rfl, Nat.le_of_ble_eq_true rfl⟩ (fun r_3 ρ_2 h_4 => ?_)
  obtain ⟨er_3, e9⟩ := h_4
  rw [e9, er_3]
  clear e9
  refine g_if_ne X 19 dX5_lasts_10 (by decide) (fun c_5 => ?_) (fun c_5 => ?_)
  · skip
    have ibt := b10_t c_5
    obtain ⟨t, ht, rfl⟩ := inb_N hT (by omega) ibt
    have ext : ix (nI t) = t := nI_clamp (by omega)
    refine g_aload_n X dX5_lasts_19 0 rfl rfl ?_
    refine g_getr X 0 (by omega) 13 (by decide) ku_X5 kv_X5 kf_X5_42 rfl lM_o_ahead dX5_lasts_20 ?_
    refine g_aload_n X dX5_lasts_23 0 rfl rfl ?_
    refine g_getr X 0 (by omega) 12 (by decide) ku_X5 kv_X5 kf_X5_38 rfl lM_o_s dX5_lasts_24 ?_
    refine g_mcallVv X (6 + 7) (c_X4_become l D cy ad _ _ _ ) kl_X5_153 ⟨rfl, rfl, Nat.le_of_ble_eq_true rfl, Nat.le_of_ble_eq_true rfl⟩ (by omega) (lM_P (isQ7 (Or.inr rfl))) kv_X4 rfl rfl (Nat.le_of_ble_eq_true rfl) dX5_lasts_27 ⟨Nat.le_of_ble_eq_true rfl, Nat.le_of_ble_eq_true rfl⟩ (fun ρ_6 h_8 => ?_)
    rw [h_8]
    refine g_iconst X (v := 0) dX5_lasts_30 (by decide) ?_
    refine g_istore_n X [(2, .int _), (0, .ref _), (1, .int _)] dX5_lasts_31 rfl (by decide) rfl ?_
    refine g_ls (ls' := [(0, .ref _), (1, .int _), (2, .int _)]) [1, 2, 0] rfl ?_
    refine g_loop (fun i => ∀ j, j < i → ¬ sndC (trR ρ t j) 6 t (-1) < 30) (fun i => rM (trR ρ t i) 0 (ρ 0 7)) (fun i => [(0, .ref (ad 0)), (1, .int (nI t)), (2, .int (nI i))]) (fun _ => ((0 + 0) + 0)) (fun _ => ((0 + 0) + 0)) 99 0 (fun j h => absurd h (by omega)) (by omega) rfl rfl rfl rfl (fun i h0i hi hIi ihi => ?_)
    obtain ⟨ρa, eρa⟩ : ∃ ρz, ρz = trR ρ t i := ⟨_, rfl⟩
    rw [← eρa]
    have tuA : tunI ρa t := by rw [eρa]; exact tr_tun (hTu t (by omega)) (by omega)
    have c1A : ∀ i9, i9 < 12 → ρa (6 + 3) i9 = 0 ∨ ρa (6 + 3) i9 = 1 := fun i9 h9 => by rw [eρa]; exact (tr_pip (hTu t (by omega)) (by omega) (hPi i9 h9) h9).2.2.1
    have wA : ∀ i9, i9 < 12 → ∃ w : Nat, w ≤ 30 ∧ ρa (6 + 1) i9 = nI w := fun i9 h9 => by rw [eρa]; exact (tr_pip (hTu t (by omega)) (by omega) (hPi i9 h9) h9).1
    refine g_iload_n X dX5_lasts_32 2 rfl rfl ?_
    refine g_bipush X (v := 99) dX5_lasts_33 (by decide) ?_
    refine g_icmp_geN X i 99 68 (by omega) (by omega) dX5_lasts_35 (by decide) (fun c_9 => ?_) (fun c_9 => ?_)
    · skip
      refine g_iload_n X dX5_lasts_68 2 rfl rfl ?_
      exact g_iret X hr hlk (by omega) (by omega) dX5_lasts_69 (by have hF : lasF ρ (nI t) = (0, nI i, ρa) := (by unfold lasF; rw [if_pos ibt, ext, laK_spec (K := i) hi hIi (Or.inl (by omega)), eρa]); rw [hF]; exact ⟨_, rfl, fun _ => rfl⟩)
    · skip
      refine g_aload_n X dX5_lasts_38 0 rfl rfl ?_
      refine g_iload_n X dX5_lasts_39 1 rfl rfl ?_
      refine g_aload_n X dX5_lasts_40 0 rfl rfl ?_
      refine g_getr X 0 (by omega) 13 (by decide) ku_X5 kv_X5 kf_X5_42 rfl lM_o_ahead dX5_lasts_41 ?_
      refine g_iconst X (v := -1) dX5_lasts_44 (by decide) ?_
      refine g_mcallVi X 0 (c_X5_soundOf l D cy ad _ _ _ t 6 _ (by omega) (Or.inr rfl) tuA c1A) kl_X5_87 ⟨rfl, rfl, Nat.le_of_ble_eq_true rfl, Nat.le_of_ble_eq_true rfl⟩ (by omega) lM_O kv_X5 rfl rfl (Nat.le_of_ble_eq_true rfl) dX5_lasts_45 ⟨Nat.le_of_ble_eq_true rfl, Nat.le_of_ble_eq_true rfl⟩ (fun r_11 ρ_10 h_12 => ?_)
      obtain ⟨er_11, e9⟩ := h_12
      rw [e9, er_11]
      clear e9
      refine g_bipush X (v := 30) dX5_lasts_48 (by decide) ?_
      refine g_icmp_lt X 68 dX5_lasts_50 (by decide) (fun c_13 => ?_) (fun c_13 => ?_)
      · skip
        have cQ := c_13
        refine g_iload_n X dX5_lasts_68 2 rfl rfl ?_
        exact g_iret X hr hlk (by omega) (by omega) dX5_lasts_69 (by have hF : lasF ρ (nI t) = (0, nI i, ρa) := (by unfold lasF; rw [if_pos ibt, ext, laK_spec (K := i) hi hIi (Or.inr (by rw [← eρa]; exact cQ)), eρa]); rw [hF]; exact ⟨_, rfl, fun _ => rfl⟩)
      · skip
        have cQ := c_13
        refine g_aload_n X dX5_lasts_53 0 rfl rfl ?_
        refine g_iload_n X dX5_lasts_54 1 rfl rfl ?_
        refine g_aload_n X dX5_lasts_55 0 rfl rfl ?_
        refine g_getr X 0 (by omega) 13 (by decide) ku_X5 kv_X5 kf_X5_42 rfl lM_o_ahead dX5_lasts_56 ?_
        refine g_mcallVv X 0 (c_X5_sing l D cy ad _ _ _ t 6 (by omega) (Or.inr rfl) tuA wA) kl_X5_107 ⟨rfl, rfl, Nat.le_of_ble_eq_true rfl, Nat.le_of_ble_eq_true rfl⟩ (by omega) lM_O kv_X5 rfl rfl (Nat.le_of_ble_eq_true rfl) dX5_lasts_59 ⟨Nat.le_of_ble_eq_true rfl, Nat.le_of_ble_eq_true rfl⟩ (fun ρ_14 h_16 => ?_)
        rw [h_16]
        refine g_iincN X i 2 [(2, .int _), (0, .ref _), (1, .int _)] 2 dX5_lasts_62 rfl (by decide) rfl ?_
        refine g_goto X 32 dX5_lasts_65 (by decide) ?_
        refine g_ls (ls' := [(0, .ref _), (1, .int _), (2, .int _)]) [1, 2, 0] rfl ?_
        exact g_eqv (ihi (by omega) (fun j h => by
      rcases Nat.lt_or_ge j i with q | q
      · exact hIi j q
      · rw [show j = i by omega, ← eρa]; exact cQ)) (rfl) (by subst_vars; rfl) rfl rfl
  · skip
    have nb := b10_f c_5
    refine g_aload_n X dX5_lasts_13 0 rfl rfl ?_
    refine g_iconst X (v := 1) dX5_lasts_14 (by decide) ?_
    refine g_mcallVi X 0 (c_X5_no l D cy ad _ _ _ _) kl_X5_67 ⟨rfl, rfl, Nat.le_of_ble_eq_true rfl, Nat.le_of_ble_eq_true rfl⟩ (by omega) lM_O kv_X5 rfl rfl (Nat.le_of_ble_eq_true rfl) dX5_lasts_15 ⟨Nat.le_of_ble_eq_true rfl, Nat.le_of_ble_eq_true rfl⟩ (fun r_18 ρ_17 h_19 => ?_)
    obtain ⟨er_18, e9⟩ := h_19
    rw [e9, er_18]
    exact g_iret X hr hlk (by omega) (by omega) dX5_lasts_18 (by have hF : lasF ρ x = (1, 0, ρ) := (by unfold lasF; rw [if_neg nb]); rw [hF]; exact ⟨_, rfl, fun _ => rfl⟩)

set_option maxHeartbeats 1000000 in
set_option maxRecDepth 100000 in
theorem c_X5_mean (l : Launch) (D : va_G) (cy : Nat → ClassId) (ad : Nat → Nat) (ρ : Nat → Nat → Int32) (th a : Int32) (N T S d : Nat) (hI : Inv ρ N T S d) : gMD l yX5_mean cX5_mean 3 (some .double) { frames := 3, cells := 0, slots := 0, locals := 68 } D cy 18 ad (cM ad cy) [.ref (ad 0)] (rM ρ th a) (fun r μ1 => (∃ a9 : Int32, μ1 = rM ρ 0 a9) ∧ r = meaF ρ) 0 0 := by
  refine gMD_of (ls := [(0, .ref (ad 0))]) RX5 rfl (by decide +kernel) (Nat.le_of_ble_eq_true rfl) rfl ?_
  intro p e s m args below meth c A X hr hlk hnm
  obtain ⟨hT, hT6, hS, hS8, hd, hdN, hN, hTu, hSt, hPi, hZ, hHd⟩ := id hI
  have hwd : wdF ρ = nI (d % 7) := by unfold wdF; rw [hd, nI_clamp (by omega)]
  refine g_aload_n X dX5_mean_0 0 rfl rfl ?_
  refine g_iconst X (v := 0) dX5_mean_1 (by decide) ?_
  refine g_puti X 0 (by omega) 0 (by decide) ku_X5 kv_X5 kf_X5_45 rfl tyX5 tyX5_ok nmX5 rfl (by decide +kernel) lM_o_thrown dX5_mean_2 (fun ρ_1 eρ_1 => ?_)
  rw [eρ_1, wM_thr]
  refine g_iconst X (v := 0) dX5_mean_5 (by decide) ?_
  refine g_istore_n X [(1, .int _), (0, .ref _)] dX5_mean_6 rfl (by decide) rfl ?_
  refine g_iconst X (v := 0) dX5_mean_7 (by decide) ?_
  refine g_istore_n X [(2, .int _), (1, .int _), (0, .ref _)] dX5_mean_8 rfl (by decide) rfl ?_
  refine g_ls (ls' := [(0, .ref _), (1, .int _), (2, .int _)]) [2, 1, 0] rfl ?_
  refine g_loop (fun _ => True) (fun _ => rM ρ 0 a) (fun i => [(0, .ref (ad 0)), (1, .int (sumI (fun t => sndC ρ 1 t (-1)) i)), (2, .int (nI i))]) (fun _ => 0) (fun _ => 0) T 0 trivial (by omega) rfl rfl rfl rfl (fun i h0i hi hIi ihi => ?_)
  refine g_iload_n X dX5_mean_9 2 rfl rfl ?_
  refine g_aload_n X dX5_mean_10 0 rfl rfl ?_
  refine g_geti X 0 (by omega) 1 (by decide) ku_X5 kv_X5 kf_X5_57 rfl lM_o_tunes dX5_mean_11 ?_
  rw [rM_tun, hT]
  refine g_icmp_geN X i T 36 (by omega) (by omega) dX5_mean_14 (by decide) (fun c_2 => ?_) (fun c_2 => ?_)
  · skip
    have hiT : i = T := by omega
    rw [hiT]
    refine g_aload_n X dX5_mean_36 0 rfl rfl ?_
    refine g_geti X 0 (by omega) 1 (by decide) ku_X5 kv_X5 kf_X5_57 rfl lM_o_tunes dX5_mean_37 ?_
    rw [rM_tun, hT]
    refine g_if_ne X 47 dX5_mean_40 (by decide) (fun c_3 => ?_) (fun c_3 => ?_)
    · skip
      have cA := c_3
      refine g_iload_n X dX5_mean_47 1 rfl rfl ?_
      refine g_i2d X dX5_mean_48 ?_
      refine g_aload_n X dX5_mean_49 0 rfl rfl ?_
      refine g_geti X 0 (by omega) 1 (by decide) ku_X5 kv_X5 kf_X5_57 rfl lM_o_tunes dX5_mean_50 ?_
      rw [rM_tun, hT]
      refine g_i2d X dX5_mean_53 ?_
      refine g_ddiv X dX5_mean_54 (Inv_mean hI cA) ?_
      exact g_dret X hr hlk (by omega) (by omega) dX5_mean_55 (⟨⟨_, rfl⟩, by unfold meaF; rw [if_neg (by rw [hT]; exact cA), hT, show ix (nI T) = T from nI_clamp (by omega)]⟩)
    · skip
      have cA := c_3
      refine g_dconst0 X dX5_mean_43 ?_
      refine g_goto X 55 dX5_mean_44 (by decide) ?_
      exact g_dret X hr hlk (by omega) (by omega) dX5_mean_55 (⟨⟨_, rfl⟩, by unfold meaF; rw [if_pos (hT.trans cA)]⟩)
  · skip
    refine g_iload_n X dX5_mean_17 1 rfl rfl ?_
    refine g_aload_n X dX5_mean_18 0 rfl rfl ?_
    refine g_iload_n X dX5_mean_19 2 rfl rfl ?_
    refine g_aload_n X dX5_mean_20 0 rfl rfl ?_
    refine g_getr X 0 (by omega) 12 (by decide) ku_X5 kv_X5 kf_X5_38 rfl lM_o_s dX5_mean_21 ?_
    refine g_iconst X (v := -1) dX5_mean_24 (by decide) ?_
    refine g_mcallVi X 0 (c_X5_soundOf l D cy ad _ _ _ i 1 _ (by omega) (Or.inl rfl) (hTu _ (by omega)) (fun i hi => (hPi i hi).2.2.1)) kl_X5_87 ⟨rfl, rfl, Nat.le_of_ble_eq_true rfl, Nat.le_of_ble_eq_true rfl⟩ (by omega) lM_O kv_X5 rfl rfl (Nat.le_of_ble_eq_true rfl) dX5_mean_25 ⟨Nat.le_of_ble_eq_true rfl, Nat.le_of_ble_eq_true rfl⟩ (fun r_5 ρ_4 h_6 => ?_)
    obtain ⟨er_5, e9⟩ := h_6
    rw [e9, er_5]
    clear e9
    refine g_iadd X dX5_mean_28 ?_
    refine g_istore_n X [(1, .int _), (0, .ref _), (2, .int _)] dX5_mean_29 rfl (by decide) rfl ?_
    refine g_iincN X i 2 [(2, .int _), (1, .int _), (0, .ref _)] 2 dX5_mean_30 rfl (by decide) rfl ?_
    refine g_goto X 9 dX5_mean_33 (by decide) ?_
    refine g_ls (ls' := [(0, .ref _), (1, .int _), (2, .int _)]) [2, 1, 0] rfl ?_
    exact g_eqv (ihi (by omega) trivial) (rfl) (rfl) rfl rfl

set_option maxHeartbeats 1000000 in
set_option maxRecDepth 100000 in
theorem c_X5_digest (l : Launch) (D : va_G) (cy : Nat → ClassId) (ad : Nat → Nat) (ρ : Nat → Nat → Int32) (th a : Int32) (N T S d : Nat) (hI : Inv ρ N T S d) : gML l yX5_digest cX5_digest 5 (some .long) { frames := 4, cells := 49, slots := 281, locals := 90 } D cy 18 ad (cM ad cy) [.ref (ad 0)] (rM ρ th a) (fun r μ1 => (∃ a9 : Int32, μ1 = rM ρ 0 a9) ∧ r = digF ρ) 49 281 := by
  refine gML_of (ls := [(0, .ref (ad 0))]) RX5 rfl (by decide +kernel) (Nat.le_of_ble_eq_true rfl) rfl ?_
  intro p e s m args below meth c A X hr hlk hnm
  obtain ⟨hT, hT6, hS, hS8, hd, hdN, hN, hTu, hSt, hPi, hZ, hHd⟩ := id hI
  have hwd : wdF ρ = nI (d % 7) := by unfold wdF; rw [hd, nI_clamp (by omega)]
  refine g_aload_n X dX5_digest_0 0 rfl rfl ?_
  refine g_iconst X (v := 0) dX5_digest_1 (by decide) ?_
  refine g_puti X 0 (by omega) 0 (by decide) ku_X5 kv_X5 kf_X5_45 rfl tyX5 tyX5_ok nmX5 rfl (by decide +kernel) lM_o_thrown dX5_digest_2 (fun ρ_1 eρ_1 => ?_)
  rw [eρ_1, wM_thr]
  refine g_ldc2 X kL_X5_157 dX5_digest_5 ?_
  refine g_lstore_n X [(1, .long _), (0, .ref _)] dX5_digest_8 rfl (by decide) rfl ?_
  refine g_iconst X (v := 0) dX5_digest_9 (by decide) ?_
  refine g_istore_n X [(3, .int _), (1, .long _), (0, .ref _)] dX5_digest_10 rfl (by decide) rfl ?_
  refine g_ls (ls' := [(0, .ref _), (1, .long _), (3, .int _)]) [2, 1, 0] rfl ?_
  refine g_loop (fun _ => True) (fun _ => rM ρ 0 a) (fun i => [(0, .ref (ad 0)), (1, .long (mxs (countF ρ) i 1097)), (3, .int (nI i))]) (fun i => i) (fun i => 9 * i) 9 0 trivial (by omega) rfl rfl rfl rfl (fun i h0i hi hIi ihi => ?_)
  refine g_iload_n X dX5_digest_11 2 rfl rfl ?_
  refine g_bipush X (v := 9) dX5_digest_12 (by decide) ?_
  refine g_icmp_geN X i 9 36 (by omega) (by omega) dX5_digest_14 (by decide) (fun c_2 => ?_) (fun c_2 => ?_)
  · skip
    refine g_iconst X (v := 0) dX5_digest_36 (by decide) ?_
    refine g_istore_n X [(3, .int _), (0, .ref _), (1, .long _)] dX5_digest_37 rfl (by decide) rfl ?_
    obtain rfl : i = 9 := by omega
    refine g_widen (k9 := 9) (n9 := 81) (by omega) (by omega) ?_
    refine g_ls (ls' := [(0, .ref _), (1, .long _), (3, .int _)]) [1, 2, 0] rfl ?_
    refine g_loop (fun _ => True) (fun _ => rM ρ 0 a) (fun u => [(0, .ref (ad 0)), (1, .long (fold1 (fun i dd => mxs (fun w => tellF ρ 1 i w) 5 dd) u (mxs (countF ρ) 9 1097))), (3, .int (nI u))]) (fun _ => 9) (fun _ => 81) 12 0 trivial (by omega) rfl rfl rfl rfl (fun u h0u hu hIu ihu => ?_)
    refine g_iload_n X dX5_digest_38 2 rfl rfl ?_
    refine g_bipush X (v := 12) dX5_digest_39 (by decide) ?_
    refine g_icmp_geN X u 12 80 (by omega) (by omega) dX5_digest_41 (by decide) (fun c_3 => ?_) (fun c_3 => ?_)
    · skip
      refine g_iconst X (v := 0) dX5_digest_80 (by decide) ?_
      refine g_istore_n X [(3, .int _), (0, .ref _), (1, .long _)] dX5_digest_81 rfl (by decide) rfl ?_
      obtain rfl : u = 12 := by omega
      refine g_ls (ls' := [(0, .ref _), (1, .long _), (3, .int _)]) [1, 2, 0] rfl ?_
      refine g_loop (fun _ => True) (fun _ => rM ρ 0 a) (fun k => [(0, .ref (ad 0)), (1, .long (mxs (fun j => ρ 13 j) k (fold1 (fun i dd => mxs (fun w => tellF ρ 1 i w) 5 dd) 12 (mxs (countF ρ) 9 1097)))), (3, .int (nI k))]) (fun _ => (9)) (fun _ => (81)) 7 0 trivial (by omega) rfl rfl rfl rfl (fun k h0k hk hIk ihk => ?_)
      refine g_iload_n X dX5_digest_82 2 rfl rfl ?_
      refine g_bipush X (v := 7) dX5_digest_83 (by decide) ?_
      refine g_icmp_geN X k 7 108 (by omega) (by omega) dX5_digest_85 (by decide) (fun c_4 => ?_) (fun c_4 => ?_)
      · skip
        refine g_iconst X (v := 0) dX5_digest_108 (by decide) ?_
        refine g_istore_n X [(3, .int _), (0, .ref _), (1, .long _)] dX5_digest_109 rfl (by decide) rfl ?_
        obtain rfl : k = 7 := by omega
        refine g_ls (ls' := [(0, .ref _), (1, .long _), (3, .int _)]) [1, 2, 0] rfl ?_
        refine g_loop (fun _ => True) (fun _ => rM ρ 0 a) (fun t => [(0, .ref (ad 0)), (1, .long (fold1 (mtF ρ) t (mxs (fun j => ρ 13 j) 7 (fold1 (fun i dd => mxs (fun w => tellF ρ 1 i w) 5 dd) 12 (mxs (countF ρ) 9 1097))))), (3, .int (nI t))]) (fun _ => ((9))) (fun _ => ((81))) T 0 trivial (by omega) rfl rfl rfl rfl (fun t h0t ht hIt iht => ?_)
        refine g_iload_n X dX5_digest_110 2 rfl rfl ?_
        refine g_aload_n X dX5_digest_111 0 rfl rfl ?_
        refine g_geti X 0 (by omega) 1 (by decide) ku_X5 kv_X5 kf_X5_57 rfl lM_o_tunes dX5_digest_112 ?_
        rw [rM_tun, hT]
        refine g_icmp_geN X t T 196 (by omega) (by omega) dX5_digest_115 (by decide) (fun c_5 => ?_) (fun c_5 => ?_)
        · skip
          refine g_iconst X (v := 0) dX5_digest_196 (by decide) ?_
          refine g_istore_n X [(3, .int _), (0, .ref _), (1, .long _)] dX5_digest_197 rfl (by decide) rfl ?_
          obtain rfl : t = T := by omega
          refine g_ls (ls' := [(0, .ref _), (1, .long _), (3, .int _)]) [1, 2, 0] rfl ?_
          refine g_loop (fun _ => True) (fun _ => rM ρ 0 a) (fun z => [(0, .ref (ad 0)), (1, .long (fold1 (msF ρ) z (fold1 (mtF ρ) t (mxs (fun j => ρ 13 j) 7 (fold1 (fun i dd => mxs (fun w => tellF ρ 1 i w) 5 dd) 12 (mxs (countF ρ) 9 1097)))))), (3, .int (nI z))]) (fun z => 9 + 5 * z) (fun z => 81 + 25 * z) S 0 trivial (by omega) rfl rfl rfl rfl (fun z h0z hz hIz ihz => ?_)
          refine g_iload_n X dX5_digest_198 2 rfl rfl ?_
          refine g_aload_n X dX5_digest_199 0 rfl rfl ?_
          refine g_geti X 0 (by omega) 4 (by decide) ku_X5 kv_X5 kf_X5_64 rfl lM_o_streets dX5_digest_200 ?_
          rw [rM_str, hS]
          refine g_icmp_geN X z S 275 (by omega) (by omega) dX5_digest_203 (by decide) (fun c_6 => ?_) (fun c_6 => ?_)
          · skip
            refine g_lload_n X dX5_digest_275 1 rfl rfl ?_
            exact g_lret X hr hlk (by omega) (by omega) dX5_digest_276 (⟨⟨_, rfl⟩, by unfold digF; rw [hT, hS, show ix (nI t) = t from nI_clamp (by omega), show ix (nI S) = S from nI_clamp (by omega), show z = S by omega]⟩)
          · skip
            refine g_iconst X (v := 0) dX5_digest_206 (by decide) ?_
            refine g_istore X [(4, .int _), (0, .ref _), (1, .long _), (3, .int _)] dX5_digest_207 (by decide) rfl ?_
            refine g_ls (ls' := [(0, .ref _), (1, .long _), (3, .int _), (4, .int _)]) [1, 2, 3, 0] rfl ?_
            refine g_loop (fun _ => True) (fun _ => rM ρ 0 a) (fun v => [(0, .ref (ad 0)), (1, .long (mxs (fun w => toldF ρ z w (wdF ρ)) v (fold1 (msF ρ) z (fold1 (mtF ρ) t (mxs (fun j => ρ 13 j) 7 (fold1 (fun i dd => mxs (fun w => tellF ρ 1 i w) 5 dd) 12 (mxs (countF ρ) 9 1097))))))), (3, .int (nI z)), (4, .int (nI v))]) (fun v => 9 + 5 * z + v) (fun v => 81 + 25 * z + 5 * v) 5 0 trivial (by omega) rfl rfl rfl rfl (fun v h0v hv hIv ihv => ?_)
            refine g_iload X dX5_digest_209 3 rfl ?_
            refine g_iconst X (v := 5) dX5_digest_211 (by decide) ?_
            refine g_icmp_geN X v 5 236 (by omega) (by omega) dX5_digest_212 (by decide) (fun c_7 => ?_) (fun c_7 => ?_)
            · skip
              refine g_iconst X (v := 0) dX5_digest_236 (by decide) ?_
              refine g_istore X [(4, .int _), (0, .ref _), (1, .long _), (3, .int _)] dX5_digest_237 (by decide) rfl ?_
              obtain rfl : v = 5 := by omega
              refine g_widen (k9 := 9 + 5 * z + 5) (n9 := 81 + 25 * z + 25) (by omega) (by omega) ?_
              refine g_ls (ls' := [(0, .ref _), (1, .long _), (3, .int _), (4, .int _)]) [1, 2, 3, 0] rfl ?_
              refine g_loop (fun _ => True) (fun _ => rM ρ 0 a) (fun k => [(0, .ref (ad 0)), (1, .long (mxs (fun t => pyN ρ z t) k (mxs (fun w => toldF ρ z w (wdF ρ)) 5 (fold1 (msF ρ) z (fold1 (mtF ρ) t (mxs (fun j => ρ 13 j) 7 (fold1 (fun i dd => mxs (fun w => tellF ρ 1 i w) 5 dd) 12 (mxs (countF ρ) 9 1097)))))))), (3, .int (nI z)), (4, .int (nI k))]) (fun _ => (9 + 5 * z + 5)) (fun _ => (81 + 25 * z + 25)) t 0 trivial (by omega) rfl rfl rfl rfl (fun k h0k hk hIk ihk => ?_)
              refine g_iload X dX5_digest_239 3 rfl ?_
              refine g_aload_n X dX5_digest_241 0 rfl rfl ?_
              refine g_geti X 0 (by omega) 1 (by decide) ku_X5 kv_X5 kf_X5_57 rfl lM_o_tunes dX5_digest_242 ?_
              rw [rM_tun]
              rw [hT]
              refine g_icmp_geN X k t 269 (by omega) (by omega) dX5_digest_245 (by decide) (fun c_8 => ?_) (fun c_8 => ?_)
              · skip
                have hkT : k = t := by omega
                refine g_iincN X z 3 [(3, .int _), (0, .ref _), (1, .long _), (4, .int _)] 2 dX5_digest_269 rfl (by decide) rfl ?_
                refine g_goto X 198 dX5_digest_272 (by decide) ?_
                refine g_ls (ls' := [(0, .ref _), (1, .long _), (3, .int _)]) [1, 2, 0] rfl ?_
                exact g_eqv (ihz (by omega) trivial) (by simp only [fold1, msF]; rw [hT, nI_clamp (by omega), hkT]) (rfl) (by omega) (by omega)
              · skip
                refine g_lload_n X dX5_digest_248 1 rfl rfl ?_
                refine g_ldc2 X kL_X5_159 dX5_digest_249 ?_
                refine g_lmul X dX5_digest_252 ?_
                refine g_aload_n X dX5_digest_253 0 rfl rfl ?_
                refine g_iload_n X dX5_digest_254 2 rfl rfl ?_
                refine g_iload X dX5_digest_255 3 rfl ?_
                refine g_mcallVi X 0 (c_X5_paysNow l D cy ad _ _ _ z k (by omega) (by omega) N t S d hI) kl_X5_104 ⟨rfl, rfl, Nat.le_of_ble_eq_true rfl, Nat.le_of_ble_eq_true rfl⟩ (by omega) lM_O kv_X5 rfl rfl (Nat.le_of_ble_eq_true rfl) dX5_digest_257 ⟨by show _ ≤ 49; omega, by show _ ≤ 281; omega⟩ (fun r_10 ρ_9 h_11 => ?_)
                obtain ⟨er_10, e9⟩ := h_11
                rw [e9, er_10]
                clear e9
                refine g_i2l X dX5_digest_260 ?_
                refine g_ladd X dX5_digest_261 ?_
                refine g_lstore_n X [(1, .long _), (0, .ref _), (3, .int _), (4, .int _)] dX5_digest_262 rfl (by decide) rfl ?_
                refine g_iincN X k 4 [(4, .int _), (1, .long _), (0, .ref _), (3, .int _)] 3 dX5_digest_263 rfl (by decide) rfl ?_
                refine g_goto X 239 dX5_digest_266 (by decide) ?_
                refine g_ls (ls' := [(0, .ref _), (1, .long _), (3, .int _), (4, .int _)]) [2, 1, 3, 0] rfl ?_
                exact g_eqv (ihk (by omega) trivial) (rfl) (rfl) rfl rfl
            · skip
              refine g_lload_n X dX5_digest_215 1 rfl rfl ?_
              refine g_ldc2 X kL_X5_159 dX5_digest_216 ?_
              refine g_lmul X dX5_digest_219 ?_
              refine g_aload_n X dX5_digest_220 0 rfl rfl ?_
              refine g_iload_n X dX5_digest_221 2 rfl rfl ?_
              refine g_iload X dX5_digest_222 3 rfl ?_
              refine g_mcallVi X 0 (c_X5_streetTold l D cy ad _ _ _ z v t d (by omega) (by omega) hT hT6 hd (by omega) (heard_T hI (by omega))) kl_X5_132 ⟨rfl, rfl, Nat.le_of_ble_eq_true rfl, Nat.le_of_ble_eq_true rfl⟩ (by omega) lM_O kv_X5 rfl rfl (Nat.le_of_ble_eq_true rfl) dX5_digest_224 ⟨by show _ ≤ 49; omega, by show _ ≤ 281; omega⟩ (fun r_13 ρ_12 h_14 => ?_)
              obtain ⟨er_13, e9⟩ := h_14
              rw [e9, er_13]
              clear e9
              refine g_i2l X dX5_digest_227 ?_
              refine g_ladd X dX5_digest_228 ?_
              refine g_lstore_n X [(1, .long _), (0, .ref _), (3, .int _), (4, .int _)] dX5_digest_229 rfl (by decide) rfl ?_
              refine g_iincN X v 4 [(4, .int _), (1, .long _), (0, .ref _), (3, .int _)] 3 dX5_digest_230 rfl (by decide) rfl ?_
              refine g_goto X 209 dX5_digest_233 (by decide) ?_
              refine g_ls (ls' := [(0, .ref _), (1, .long _), (3, .int _), (4, .int _)]) [2, 1, 3, 0] rfl ?_
              exact g_eqv (ihv (by omega) trivial) (rfl) (rfl) (by omega) (by omega)
        · skip
          obtain ⟨L, hL, hL16, hLn, hLc⟩ := hTu t (by omega)
          refine g_lload_n X dX5_digest_118 1 rfl rfl ?_
          refine g_ldc2 X kL_X5_159 dX5_digest_119 ?_
          refine g_lmul X dX5_digest_122 ?_
          refine g_aload_n X dX5_digest_123 0 rfl rfl ?_
          refine g_getr X 0 (by omega) 2 (by decide) ku_X5 kv_X5 kf_X5_9 rfl lM_o_many dX5_digest_124 ?_
          refine g_iload_n X dX5_digest_127 2 rfl rfl ?_
          refine g_ialdN X 1 t (by omega) lM_many (by omega) (by decide) dX5_digest_128 ?_
          rw [rM_many (by omega)]
          rw [hL]
          refine g_i2l X dX5_digest_129 ?_
          refine g_ladd X dX5_digest_130 ?_
          refine g_lstore_n X [(1, .long _), (0, .ref _), (3, .int _)] dX5_digest_131 rfl (by decide) rfl ?_
          refine g_iconst X (v := 0) dX5_digest_132 (by decide) ?_
          refine g_istore X [(4, .int _), (1, .long _), (0, .ref _), (3, .int _)] dX5_digest_133 (by decide) rfl ?_
          refine g_ls (ls' := [(0, .ref _), (1, .long _), (3, .int _), (4, .int _)]) [2, 1, 3, 0] rfl ?_
          refine g_loop (fun _ => True) (fun _ => rM ρ 0 a) (fun k => [(0, .ref (ad 0)), (1, .long (mxs (fun k => ρ (15 + 3 * t) k) k (mixF (fold1 (mtF ρ) t (mxs (fun j => ρ 13 j) 7 (fold1 (fun i dd => mxs (fun w => tellF ρ 1 i w) 5 dd) 12 (mxs (countF ρ) 9 1097)))) (nI L)))), (3, .int (nI t)), (4, .int (nI k))]) (fun _ => (((9)))) (fun _ => (((81)))) L 0 trivial (by omega) rfl rfl rfl rfl (fun k h0k hk hIk ihk => ?_)
          refine g_iload X dX5_digest_135 3 rfl ?_
          refine g_aload_n X dX5_digest_137 0 rfl rfl ?_
          refine g_getr X 0 (by omega) 2 (by decide) ku_X5 kv_X5 kf_X5_9 rfl lM_o_many dX5_digest_138 ?_
          refine g_iload_n X dX5_digest_141 2 rfl rfl ?_
          refine g_ialdN X 1 t (by omega) lM_many (by omega) (by decide) dX5_digest_142 ?_
          rw [rM_many (by omega)]
          rw [hL]
          refine g_icmp_geN X k L 172 (by omega) (by omega) dX5_digest_143 (by decide) (fun c_15 => ?_) (fun c_15 => ?_)
          · skip
            have hkL : k = L := by omega
            refine g_lload_n X dX5_digest_172 1 rfl rfl ?_
            refine g_ldc2 X kL_X5_159 dX5_digest_173 ?_
            refine g_lmul X dX5_digest_176 ?_
            refine g_aload_n X dX5_digest_177 0 rfl rfl ?_
            refine g_iload_n X dX5_digest_178 2 rfl rfl ?_
            refine g_aload_n X dX5_digest_179 0 rfl rfl ?_
            refine g_getr X 0 (by omega) 12 (by decide) ku_X5 kv_X5 kf_X5_38 rfl lM_o_s dX5_digest_180 ?_
            refine g_iconst X (v := -1) dX5_digest_183 (by decide) ?_
            refine g_mcallVi X 0 (c_X5_soundOf l D cy ad _ _ _ t 1 _ (by omega) (Or.inl rfl) (hTu _ (by omega)) (fun i hi => (hPi i hi).2.2.1)) kl_X5_87 ⟨rfl, rfl, Nat.le_of_ble_eq_true rfl, Nat.le_of_ble_eq_true rfl⟩ (by omega) lM_O kv_X5 rfl rfl (Nat.le_of_ble_eq_true rfl) dX5_digest_184 ⟨by show _ ≤ 49; omega, by show _ ≤ 281; omega⟩ (fun r_17 ρ_16 h_18 => ?_)
            obtain ⟨er_17, e9⟩ := h_18
            rw [e9, er_17]
            clear e9
            refine g_i2l X dX5_digest_187 ?_
            refine g_ladd X dX5_digest_188 ?_
            refine g_lstore_n X [(1, .long _), (0, .ref _), (3, .int _), (4, .int _)] dX5_digest_189 rfl (by decide) rfl ?_
            refine g_iincN X t 3 [(3, .int _), (1, .long _), (0, .ref _), (4, .int _)] 2 dX5_digest_190 rfl (by decide) rfl ?_
            refine g_goto X 110 dX5_digest_193 (by decide) ?_
            refine g_ls (ls' := [(0, .ref _), (1, .long _), (3, .int _)]) [2, 1, 0] rfl ?_
            exact g_eqv (iht (by omega) trivial) (by simp only [fold1, mtF]; rw [hL, nI_clamp (by omega), hkL]; rfl) (rfl) rfl rfl
          · skip
            refine g_lload_n X dX5_digest_146 1 rfl rfl ?_
            refine g_ldc2 X kL_X5_159 dX5_digest_147 ?_
            refine g_lmul X dX5_digest_150 ?_
            refine g_aload_n X dX5_digest_151 0 rfl rfl ?_
            refine g_getr X 0 (by omega) 3 (by decide) ku_X5 kv_X5 kf_X5_13 rfl lM_o_notes dX5_digest_152 ?_
            refine g_bipush X (v := 16) dX5_digest_155 (by decide) ?_
            refine g_iload_n X dX5_digest_157 2 rfl rfl ?_
            refine g_imul X dX5_digest_158 ?_
            rw [show (16 : Int32) * nI t = nI (16 * t) from mulN 16 t]
            refine g_iload X dX5_digest_159 3 rfl ?_
            refine g_iadd X dX5_digest_161 ?_
            rw [nI_add]
            refine g_ialdN X 2 (16 * t + k) (by omega) lM_notes (by omega) (by decide) dX5_digest_162 ?_
            rw [rM_notes (by omega) (by omega)]
            refine g_i2l X dX5_digest_163 ?_
            refine g_ladd X dX5_digest_164 ?_
            refine g_lstore_n X [(1, .long _), (0, .ref _), (3, .int _), (4, .int _)] dX5_digest_165 rfl (by decide) rfl ?_
            refine g_iincN X k 4 [(4, .int _), (1, .long _), (0, .ref _), (3, .int _)] 3 dX5_digest_166 rfl (by decide) rfl ?_
            refine g_goto X 135 dX5_digest_169 (by decide) ?_
            refine g_ls (ls' := [(0, .ref _), (1, .long _), (3, .int _), (4, .int _)]) [2, 1, 3, 0] rfl ?_
            exact g_eqv (ihk (by omega) trivial) (rfl) (rfl) rfl rfl
      · skip
        refine g_lload_n X dX5_digest_88 1 rfl rfl ?_
        refine g_ldc2 X kL_X5_159 dX5_digest_89 ?_
        refine g_lmul X dX5_digest_92 ?_
        refine g_aload_n X dX5_digest_93 0 rfl rfl ?_
        refine g_getr X 0 (by omega) 9 (by decide) ku_X5 kv_X5 kf_X5_28 rfl lM_o_damp dX5_digest_94 ?_
        refine g_iload_n X dX5_digest_97 2 rfl rfl ?_
        refine g_ialdN X 7 k (by omega) lM_damp (by omega) (by decide) dX5_digest_98 ?_
        rw [rM_dam (by omega)]
        refine g_i2l X dX5_digest_99 ?_
        refine g_ladd X dX5_digest_100 ?_
        refine g_lstore_n X [(1, .long _), (0, .ref _), (3, .int _)] dX5_digest_101 rfl (by decide) rfl ?_
        refine g_iincN X k 3 [(3, .int _), (1, .long _), (0, .ref _)] 2 dX5_digest_102 rfl (by decide) rfl ?_
        refine g_goto X 82 dX5_digest_105 (by decide) ?_
        refine g_ls (ls' := [(0, .ref _), (1, .long _), (3, .int _)]) [2, 1, 0] rfl ?_
        exact g_eqv (ihk (by omega) trivial) (rfl) (rfl) rfl rfl
    · skip
      refine g_iconst X (v := 0) dX5_digest_44 (by decide) ?_
      refine g_istore X [(4, .int _), (0, .ref _), (1, .long _), (3, .int _)] dX5_digest_45 (by decide) rfl ?_
      refine g_ls (ls' := [(0, .ref _), (1, .long _), (3, .int _), (4, .int _)]) [1, 2, 3, 0] rfl ?_
      refine g_loop (fun _ => True) (fun _ => rM ρ 0 a) (fun v => [(0, .ref (ad 0)), (1, .long (mxs (fun w => tellF ρ 1 u w) v (fold1 (fun i dd => mxs (fun w => tellF ρ 1 i w) 5 dd) u (mxs (countF ρ) 9 1097)))), (3, .int (nI u)), (4, .int (nI v))]) (fun _ => (9)) (fun _ => (81)) 5 0 trivial (by omega) rfl rfl rfl rfl (fun v h0v hv hIv ihv => ?_)
      refine g_iload X dX5_digest_47 3 rfl ?_
      refine g_iconst X (v := 5) dX5_digest_49 (by decide) ?_
      refine g_icmp_geN X v 5 74 (by omega) (by omega) dX5_digest_50 (by decide) (fun c_19 => ?_) (fun c_19 => ?_)
      · skip
        obtain rfl : v = 5 := by omega
        refine g_iincN X u 3 [(3, .int _), (0, .ref _), (1, .long _), (4, .int _)] 2 dX5_digest_74 rfl (by decide) rfl ?_
        refine g_goto X 38 dX5_digest_77 (by decide) ?_
        refine g_ls (ls' := [(0, .ref _), (1, .long _), (3, .int _)]) [1, 2, 0] rfl ?_
        exact g_eqv (ihu (by omega) trivial) (rfl) (rfl) rfl rfl
      · skip
        refine g_lload_n X dX5_digest_53 1 rfl rfl ?_
        refine g_ldc2 X kL_X5_159 dX5_digest_54 ?_
        refine g_lmul X dX5_digest_57 ?_
        refine g_aload_n X dX5_digest_58 0 rfl rfl ?_
        refine g_iload_n X dX5_digest_59 2 rfl rfl ?_
        refine g_iload X dX5_digest_60 3 rfl ?_
        refine g_mcallVi X 0 (c_X5_pipeTold l D cy ad _ _ _ u v (by omega) (by omega) (hPi u (by omega))) kl_X5_129 ⟨rfl, rfl, Nat.le_of_ble_eq_true rfl, Nat.le_of_ble_eq_true rfl⟩ (by omega) lM_O kv_X5 rfl rfl (Nat.le_of_ble_eq_true rfl) dX5_digest_62 ⟨by show _ ≤ 49; omega, by show _ ≤ 281; omega⟩ (fun r_21 ρ_20 h_22 => ?_)
        obtain ⟨er_21, e9⟩ := h_22
        rw [e9, er_21]
        clear e9
        refine g_i2l X dX5_digest_65 ?_
        refine g_ladd X dX5_digest_66 ?_
        refine g_lstore_n X [(1, .long _), (0, .ref _), (3, .int _), (4, .int _)] dX5_digest_67 rfl (by decide) rfl ?_
        refine g_iincN X v 4 [(4, .int _), (1, .long _), (0, .ref _), (3, .int _)] 3 dX5_digest_68 rfl (by decide) rfl ?_
        refine g_goto X 47 dX5_digest_71 (by decide) ?_
        refine g_ls (ls' := [(0, .ref _), (1, .long _), (3, .int _), (4, .int _)]) [2, 1, 3, 0] rfl ?_
        exact g_eqv (ihv (by omega) trivial) (rfl) (rfl) rfl rfl
  · skip
    refine g_lload_n X dX5_digest_17 1 rfl rfl ?_
    refine g_ldc2 X kL_X5_159 dX5_digest_18 ?_
    refine g_lmul X dX5_digest_21 ?_
    refine g_aload_n X dX5_digest_22 0 rfl rfl ?_
    refine g_iload_n X dX5_digest_23 2 rfl rfl ?_
    refine g_mcallVi X 0 (c_X5_counted l D cy ad _ _ _ i (by omega) N T S d hI) kl_X5_141 ⟨rfl, rfl, Nat.le_of_ble_eq_true rfl, Nat.le_of_ble_eq_true rfl⟩ (by omega) lM_O kv_X5 rfl rfl (Nat.le_of_ble_eq_true rfl) dX5_digest_24 ⟨by show _ ≤ 49; omega, by show _ ≤ 281; omega⟩ (fun r_24 ρ_23 h_25 => ?_)
    obtain ⟨er_24, e9⟩ := h_25
    rw [e9, er_24]
    clear e9
    refine g_i2l X dX5_digest_27 ?_
    refine g_ladd X dX5_digest_28 ?_
    refine g_lstore_n X [(1, .long _), (0, .ref _), (3, .int _)] dX5_digest_29 rfl (by decide) rfl ?_
    refine g_iincN X i 3 [(3, .int _), (1, .long _), (0, .ref _)] 2 dX5_digest_30 rfl (by decide) rfl ?_
    refine g_goto X 11 dX5_digest_33 (by decide) ?_
    refine g_ls (ls' := [(0, .ref _), (1, .long _), (3, .int _)]) [2, 1, 0] rfl ?_
    exact g_eqv (ihi (by omega) trivial) (rfl) (rfl) (by omega) (by omega)
