set_option maxHeartbeats 1000000 in
set_option maxRecDepth 100000 in
theorem c_X3_barrel (l : Launch) (hl0 : l.stackTraces = false) (D : va_G) (cy : Nat → ClassId) (ad : Nat → Nat) (ρ : Nat → Nat → Int32) (N T S d : Nat) (hI : Inv ρ N T S d) : gXI l yX3_barrel cX3_barrel 1 (some .int) { frames := 6, cells := 3, slots := 18, locals := 90 } D cy 48 ad (cC ad cy) [.ref (ad 0)] ρ (fun r ρ1 => barF ρ = (0, r, ρ1)) (xq1 "java/lang/IllegalStateException" (barF ρ).1) 3 18 := by
  refine gXI_of (ls := [(0, .ref (ad 0))]) RX3 rfl (by decide +kernel) (Nat.le_of_ble_eq_true rfl) rfl ?_
  intro p e s m args below meth c A X hE hxt hr hlk
  obtain ⟨hT, hT6, hS, hS8, hd, hdN, hN, hTu, hSt, hPi, hZ, hHd⟩ := id hI
  have hwd : wdF ρ = nI (d % 7) := by unfold wdF; rw [hd, nI_clamp (by omega)]
  refine g_aload_n X dX3_barrel_0 0 rfl rfl ?_
  refine g_geti X 0 (by omega) 5 (by decide) ku_X3 kv_X3 kf_X3_41 rfl lC_o_tuneCount dX3_barrel_1 ?_
  rw [show ρ 0 5 = nI T from hT]
  refine g_bipush X (v := 6) dX3_barrel_4 (by decide) ?_
  refine g_icmp_ltN X T 6 19 (by omega) (by omega) dX3_barrel_6 (by decide) (fun c_1 => ?_) (fun c_1 => ?_)
  · skip
    refine g_aload_n X dX3_barrel_19 0 rfl rfl ?_
    refine g_dup X dX3_barrel_20 rfl ?_
    refine g_geti X 0 (by omega) 5 (by decide) ku_X3 kv_X3 kf_X3_41 rfl lC_o_tuneCount dX3_barrel_21 ?_
    rw [show ρ 0 5 = nI T from hT]
    refine g_dup_x1 X dX3_barrel_24 rfl rfl ?_
    refine g_iconst X (v := 1) dX3_barrel_25 (by decide) ?_
    refine g_iadd X dX3_barrel_26 ?_
    refine g_puti X 0 (by omega) 5 (by decide) ku_X3 kv_X3 kf_X3_41 rfl tyX3 tyX3_ok nmX3 rfl (by decide +kernel) lC_o_tuneCount dX3_barrel_27 (fun ρ_2 eρ_2 => ?_)
    exact g_xiret X hr hlk (by omega) (by omega) dX3_barrel_30 (by subst_vars; unfold barF; rw [if_neg (by rw [hT]; exact nI_ne (a := T) (b := 6) (by omega) (by omega) (by omega)), hT])
  · skip
    exact g_throw X hE hl0 (names := ["java/lang/RuntimeException", "java/lang/Exception"]) (by decide +kernel) (by decide +kernel) kk_X3_44 ki_ISE kst_46 kh_ISE_48 kh_ISE_48g dX3_barrel_9 dX3_barrel_12 dX3_barrel_13 dX3_barrel_15 dX3_barrel_18 hxt ⟨Nat.le_of_ble_eq_true rfl, Nat.le_of_ble_eq_true rfl, Nat.le_of_ble_eq_true rfl, Nat.le_of_ble_eq_true rfl⟩ hlk (⟨rfl, by unfold barF; rw [if_pos (by rw [hT, show T = 6 by omega]; rfl)]⟩) (by omega) (by omega)

set_option maxHeartbeats 1000000 in
set_option maxRecDepth 100000 in
theorem c_X3_pin (l : Launch) (hl0 : l.stackTraces = false) (D : va_G) (cy : Nat → ClassId) (ad : Nat → Nat) (ρ : Nat → Nat → Int32) (N T S d : Nat) (hI : Inv ρ N T S d) (x y : Int32) : gXI l yX3_pin cX3_pin 3 (some .int) { frames := 7, cells := 3, slots := 18, locals := 111 } D cy 48 ad (cC ad cy) [.ref (ad 0), .int x, .int y] ρ (fun r ρ1 => pinF ρ x y = (0, r, ρ1)) (xq2 "java/lang/IndexOutOfBoundsException" "java/lang/IllegalStateException" (pinF ρ x y).1) 3 18 := by
  refine gXI_of (ls := [(0, .ref (ad 0)), (1, .int x), (2, .int y)]) RX3 rfl (by decide +kernel) (Nat.le_of_ble_eq_true rfl) rfl ?_
  intro p e s m args below meth c A X hE hxt hr hlk
  obtain ⟨hT, hT6, hS, hS8, hd, hdN, hN, hTu, hSt, hPi, hZ, hHd⟩ := id hI
  have hwd : wdF ρ = nI (d % 7) := by unfold wdF; rw [hd, nI_clamp (by omega)]
  refine g_aload_n X dX3_pin_0 0 rfl rfl ?_
  refine g_iload_n X dX3_pin_1 1 rfl rfl ?_
  refine g_xcallVv X hE 0 (c_X3_checkTune l hl0 D cy ad ρ _) kl_X3_51 ⟨rfl, rfl, Nat.le_of_ble_eq_true rfl, Nat.le_of_ble_eq_true rfl⟩ (by omega) lC_O kv_X3 rfl rfl (Nat.le_of_ble_eq_true rfl) dX3_pin_2 ⟨Nat.le_of_ble_eq_true rfl, Nat.le_of_ble_eq_true rfl⟩ (g_out hxt hlk (fun E h => Or.inl ⟨h.1, by unfold pinF; rw [if_neg h.2]⟩) (by omega) (by omega)) (fun ρ_1 h_3 => ?_)
  obtain ⟨e9, ib9⟩ := h_3
  rw [e9]
  obtain ⟨t, ht, rfl⟩ := inb_N hT (by omega) ib9
  have ibt := ib9
  have ext : ix (nI t) = t := nI_clamp (by omega)
  refine g_iload_n X dX3_pin_5 2 rfl rfl ?_
  refine g_xcallSv X hE (c_X3_checkPipe l hl0 D cy ad ρ _) kl_X3_55 ⟨rfl, rfl, Nat.le_of_ble_eq_true rfl, Nat.le_of_ble_eq_true rfl⟩ rfl rfl (Nat.le_of_ble_eq_true rfl) dX3_pin_6 ⟨Nat.le_of_ble_eq_true rfl, Nat.le_of_ble_eq_true rfl⟩ (g_out hxt hlk (fun E h => Or.inl ⟨h.1, by unfold pinF; rw [if_pos ibt, if_neg h.2]⟩) (by omega) (by omega)) (fun ρ_4 h_6 => ?_)
  obtain ⟨e9, ib9⟩ := h_6
  rw [e9]
  obtain ⟨q, hq, rfl⟩ := inb_N (T := 12) rfl (by omega) ib9
  have ibq := ib9
  have exq : ix (nI q) = q := nI_clamp (by omega)
  obtain ⟨L, hL, hL16, hLn, hLc⟩ := hTu t (by omega)
  refine g_aload_n X dX3_pin_9 0 rfl rfl ?_
  refine g_getr X 0 (by omega) 2 (by decide) ku_X3 kv_X3 kf_X3_21 rfl lC_o_tunes dX3_pin_10 ?_
  refine g_iload_n X dX3_pin_13 1 rfl rfl ?_
  refine g_aaldN X 11 t 2 (by omega) lC_tunes rfl (by omega) (by decide) dX3_pin_14 ?_
  refine g_geti X (14 + 3 * t) (by omega) 2 (by decide) ku_X2 kv_X2 kf_X3_58 rfl (lC_f_length (by omega)) dX3_pin_15 ?_
  rw [hL]
  refine g_bipush X (v := 16) dX3_pin_18 (by decide) ?_
  refine g_icmp_ltN X L 16 33 (by omega) (by omega) dX3_pin_20 (by decide) (fun c_7 => ?_) (fun c_7 => ?_)
  · skip
    refine g_aload_n X dX3_pin_33 0 rfl rfl ?_
    refine g_getr X 0 (by omega) 2 (by decide) ku_X3 kv_X3 kf_X3_21 rfl lC_o_tunes dX3_pin_34 ?_
    refine g_iload_n X dX3_pin_37 1 rfl rfl ?_
    refine g_aaldN X 11 t 2 (by omega) lC_tunes rfl (by omega) (by decide) dX3_pin_38 ?_
    refine g_iload_n X dX3_pin_39 2 rfl rfl ?_
    refine g_mcallVi X (14 + 3 * t) (c_X2_append l D cy ad ρ t L q (by omega) hL (by omega) (by omega)) kl_X3_63 ⟨rfl, rfl, Nat.le_of_ble_eq_true rfl, Nat.le_of_ble_eq_true rfl⟩ (by omega) (lC_T (by omega)) kv_X2 rfl rfl (Nat.le_of_ble_eq_true rfl) dX3_pin_40 ⟨Nat.le_of_ble_eq_true rfl, Nat.le_of_ble_eq_true rfl⟩ (fun r_9 ρ_8 h_10 => ?_)
    obtain ⟨er_9, eρ_8⟩ := h_10
    exact g_xiret X hr hlk (by omega) (by omega) dX3_pin_43 (by subst_vars; unfold pinF; rw [if_pos ibt, if_pos ibq, if_neg (by rw [ext, hL]; exact nI_ne (a := L) (b := 16) (by omega) (by omega) (by omega)), ext, exq, hL, show ix (nI L) = L from nI_clamp (by omega), nI_1])
  · skip
    exact g_throw X hE hl0 (names := ["java/lang/RuntimeException", "java/lang/Exception"]) (by decide +kernel) (by decide +kernel) kk_X3_44 ki_ISE kst_61 kh_ISE_48 kh_ISE_48g dX3_pin_23 dX3_pin_26 dX3_pin_27 dX3_pin_29 dX3_pin_32 hxt ⟨Nat.le_of_ble_eq_true rfl, Nat.le_of_ble_eq_true rfl, Nat.le_of_ble_eq_true rfl, Nat.le_of_ble_eq_true rfl⟩ hlk (Or.inr ⟨rfl, by unfold pinF; rw [if_pos ibt, if_pos ibq, if_pos (by rw [ext, hL, show L = 16 by omega]; rfl)]⟩) (by omega) (by omega)

set_option maxHeartbeats 1000000 in
set_option maxRecDepth 100000 in
theorem c_X3_note (l : Launch) (hl0 : l.stackTraces = false) (D : va_G) (cy : Nat → ClassId) (ad : Nat → Nat) (ρ : Nat → Nat → Int32) (N T S d : Nat) (hI : Inv ρ N T S d) (x y : Int32) : gXI l yX3_note cX3_note 3 (some .int) { frames := 7, cells := 3, slots := 18, locals := 111 } D cy 48 ad (cC ad cy) [.ref (ad 0), .int x, .int y] ρ (fun r ρ1 => notF ρ x y = (0, r, ρ1)) (xq1 "java/lang/IndexOutOfBoundsException" (notF ρ x y).1) 3 18 := by
  refine gXI_of (ls := [(0, .ref (ad 0)), (1, .int x), (2, .int y)]) RX3 rfl (by decide +kernel) (Nat.le_of_ble_eq_true rfl) rfl ?_
  intro p e s m args below meth c A X hE hxt hr hlk
  obtain ⟨hT, hT6, hS, hS8, hd, hdN, hN, hTu, hSt, hPi, hZ, hHd⟩ := id hI
  have hwd : wdF ρ = nI (d % 7) := by unfold wdF; rw [hd, nI_clamp (by omega)]
  refine g_aload_n X dX3_note_0 0 rfl rfl ?_
  refine g_iload_n X dX3_note_1 1 rfl rfl ?_
  refine g_xcallVv X hE 0 (c_X3_checkTune l hl0 D cy ad ρ _) kl_X3_51 ⟨rfl, rfl, Nat.le_of_ble_eq_true rfl, Nat.le_of_ble_eq_true rfl⟩ (by omega) lC_O kv_X3 rfl rfl (Nat.le_of_ble_eq_true rfl) dX3_note_2 ⟨Nat.le_of_ble_eq_true rfl, Nat.le_of_ble_eq_true rfl⟩ (g_out hxt hlk (fun E h => ⟨h.1, by unfold notF; rw [if_neg h.2]⟩) (by omega) (by omega)) (fun ρ_1 h_3 => ?_)
  obtain ⟨e9, ib9⟩ := h_3
  rw [e9]
  obtain ⟨t, ht, rfl⟩ := inb_N hT (by omega) ib9
  have ibt := ib9
  have ext : ix (nI t) = t := nI_clamp (by omega)
  obtain ⟨L, hL, hL16, hLn, hLc⟩ := hTu t (by omega)
  refine g_iload_n X dX3_note_5 2 rfl rfl ?_
  refine g_if_lt X 22 dX3_note_6 (by decide) (fun c_4 => ?_) (fun c_4 => ?_)
  · skip
    have cA := c_4
    exact g_throw X hE hl0 (names := ["java/lang/RuntimeException", "java/lang/Exception"]) (by decide +kernel) (by decide +kernel) kk_X3_67 ki_IOB kst_69 kh_IOB_71 kh_IOB_71g dX3_note_22 dX3_note_25 dX3_note_26 dX3_note_28 dX3_note_31 hxt ⟨Nat.le_of_ble_eq_true rfl, Nat.le_of_ble_eq_true rfl, Nat.le_of_ble_eq_true rfl, Nat.le_of_ble_eq_true rfl⟩ hlk (⟨rfl, by unfold notF; rw [if_pos ibt, if_neg (fun q => q.1 cA)]⟩) (by omega) (by omega)
  · skip
    have cA := c_4
    refine g_iload_n X dX3_note_9 2 rfl rfl ?_
    refine g_aload_n X dX3_note_10 0 rfl rfl ?_
    refine g_getr X 0 (by omega) 2 (by decide) ku_X3 kv_X3 kf_X3_21 rfl lC_o_tunes dX3_note_11 ?_
    refine g_iload_n X dX3_note_14 1 rfl rfl ?_
    refine g_aaldN X 11 t 2 (by omega) lC_tunes rfl (by omega) (by decide) dX3_note_15 ?_
    refine g_geti X (14 + 3 * t) (by omega) 2 (by decide) ku_X2 kv_X2 kf_X3_58 rfl (lC_f_length (by omega)) dX3_note_16 ?_
    refine g_icmp_lt X 32 dX3_note_19 (by decide) (fun c_5 => ?_) (fun c_5 => ?_)
    · skip
      have ib2 : inb y (ρ (14 + 3 * t) 2) := ⟨cA, c_5⟩
      obtain ⟨k, hk, rfl⟩ := inb_N hL (by omega) ib2
      have exk : ix (nI k) = k := nI_clamp (by omega)
      refine g_aload_n X dX3_note_32 0 rfl rfl ?_
      refine g_getr X 0 (by omega) 2 (by decide) ku_X3 kv_X3 kf_X3_21 rfl lC_o_tunes dX3_note_33 ?_
      refine g_iload_n X dX3_note_36 1 rfl rfl ?_
      refine g_aaldN X 11 t 2 (by omega) lC_tunes rfl (by omega) (by decide) dX3_note_37 ?_
      refine g_getr X (14 + 3 * t) (by omega) 0 (by decide) ku_X2 kv_X2 kf_X3_72 rfl (lC_f_notes (by omega)) dX3_note_38 ?_
      refine g_iload_n X dX3_note_41 2 rfl rfl ?_
      refine g_ialdN X (15 + 3 * t) k (by omega) (lC_notes (by omega)) (by omega) (by decide) dX3_note_42 ?_
      exact g_xiret X hr hlk (by omega) (by omega) dX3_note_43 (by unfold notF; rw [if_pos ibt, ext, if_pos ib2, exk])
    · skip
      have cB := c_5
      exact g_throw X hE hl0 (names := ["java/lang/RuntimeException", "java/lang/Exception"]) (by decide +kernel) (by decide +kernel) kk_X3_67 ki_IOB kst_69 kh_IOB_71 kh_IOB_71g dX3_note_22 dX3_note_25 dX3_note_26 dX3_note_28 dX3_note_31 hxt ⟨Nat.le_of_ble_eq_true rfl, Nat.le_of_ble_eq_true rfl, Nat.le_of_ble_eq_true rfl, Nat.le_of_ble_eq_true rfl⟩ hlk (⟨rfl, by unfold notF; rw [if_pos ibt, ext, if_neg (fun q => cB q.2)]⟩) (by omega) (by omega)

set_option maxHeartbeats 1000000 in
set_option maxRecDepth 100000 in
theorem c_X3_street (l : Launch) (hl0 : l.stackTraces = false) (D : va_G) (cy : Nat → ClassId) (ad : Nat → Nat) (ρ : Nat → Nat → Int32) (N T S d : Nat) (hI : Inv ρ N T S d) (x y : Int32) : gXI l yX3_street cX3_street 3 (some .int) { frames := 7, cells := 3, slots := 18, locals := 110 } D cy 48 ad (cC ad cy) [.ref (ad 0), .int x, .int y] ρ (fun r ρ1 => strF ρ x y = (0, r, ρ1)) (xq2 "java/lang/IllegalArgumentException" "java/lang/IllegalStateException" (strF ρ x y).1) 3 18 := by
  refine gXI_of (ls := [(0, .ref (ad 0)), (1, .int x), (2, .int y)]) RX3 rfl (by decide +kernel) (Nat.le_of_ble_eq_true rfl) rfl ?_
  intro p e s m args below meth c A X hE hxt hr hlk
  obtain ⟨hT, hT6, hS, hS8, hd, hdN, hN, hTu, hSt, hPi, hZ, hHd⟩ := id hI
  have hwd : wdF ρ = nI (d % 7) := by unfold wdF; rw [hd, nI_clamp (by omega)]
  refine g_iload_n X dX3_street_0 1 rfl rfl ?_
  refine g_if_lt X 10 dX3_street_1 (by decide) (fun c_1 => ?_) (fun c_1 => ?_)
  · skip
    have cA := c_1
    exact g_throw X hE hl0 (names := ["java/lang/RuntimeException", "java/lang/Exception"]) (by decide +kernel) (by decide +kernel) kk_X3_75 ki_IAE kst_77 kh_IAE_79 kh_IAE_79g dX3_street_10 dX3_street_13 dX3_street_14 dX3_street_16 dX3_street_19 hxt ⟨Nat.le_of_ble_eq_true rfl, Nat.le_of_ble_eq_true rfl, Nat.le_of_ble_eq_true rfl, Nat.le_of_ble_eq_true rfl⟩ hlk (Or.inl ⟨rfl, by unfold strF; rw [if_neg (fun q => q.1 cA)]⟩) (by omega) (by omega)
  · skip
    have cA := c_1
    refine g_iload_n X dX3_street_4 1 rfl rfl ?_
    refine g_bipush X (v := 90) dX3_street_5 (by decide) ?_
    refine g_icmp_le X 20 dX3_street_7 (by decide) (fun c_2 => ?_) (fun c_2 => ?_)
    · skip
      have ibx : inl x 90 := ⟨cA, c_2⟩
      refine g_iload_n X dX3_street_20 2 rfl rfl ?_
      refine g_xcallSv X hE (c_X3_checkPermits l hl0 D cy ad ρ _) kl_X3_80 ⟨rfl, rfl, Nat.le_of_ble_eq_true rfl, Nat.le_of_ble_eq_true rfl⟩ rfl rfl (Nat.le_of_ble_eq_true rfl) dX3_street_21 ⟨Nat.le_of_ble_eq_true rfl, Nat.le_of_ble_eq_true rfl⟩ (g_out hxt hlk (fun E h => Or.inl ⟨h.1, by unfold strF; rw [if_pos ibx, if_neg h.2]⟩) (by omega) (by omega)) (fun ρ_3 h_5 => ?_)
      obtain ⟨e9, ib9⟩ := h_5
      rw [e9]
      have ib21 := ib9
      refine g_aload_n X dX3_street_24 0 rfl rfl ?_
      refine g_geti X 0 (by omega) 6 (by decide) ku_X3 kv_X3 kf_X3_83 rfl lC_o_streetCount dX3_street_25 ?_
      rw [show ρ 0 6 = nI S from hS]
      refine g_bipush X (v := 8) dX3_street_28 (by decide) ?_
      refine g_icmp_ltN X S 8 43 (by omega) (by omega) dX3_street_30 (by decide) (fun c_6 => ?_) (fun c_6 => ?_)
      · skip
        refine g_aload_n X dX3_street_43 0 rfl rfl ?_
        refine g_getr X 0 (by omega) 3 (by decide) ku_X3 kv_X3 kf_X3_28 rfl lC_o_streets dX3_street_44 ?_
        refine g_aload_n X dX3_street_47 0 rfl rfl ?_
        refine g_geti X 0 (by omega) 6 (by decide) ku_X3 kv_X3 kf_X3_83 rfl lC_o_streetCount dX3_street_48 ?_
        rw [show ρ 0 6 = nI S from hS]
        refine g_aaldN X 12 S 3 (by omega) lC_streets rfl (by omega) (by decide) dX3_street_51 ?_
        refine g_iload_n X dX3_street_52 1 rfl rfl ?_
        refine g_puti X (32 + 2 * S) (by omega) 1 (by decide) ku_X1 kv_X1 kf_X3_88 rfl tyX1 tyX1_ok nmX1 rfl (by decide +kernel) (lC_f_listeners (by omega)) dX3_street_53 (fun ρ_7 eρ_7 => ?_)
        refine g_aload_n X dX3_street_56 0 rfl rfl ?_
        refine g_getr X 0 (by omega) 3 (by decide) ku_X3 kv_X3 kf_X3_28 rfl lC_o_streets dX3_street_57 ?_
        refine g_aload_n X dX3_street_60 0 rfl rfl ?_
        refine g_geti X 0 (by omega) 6 (by decide) ku_X3 kv_X3 kf_X3_83 rfl lC_o_streetCount dX3_street_61 ?_
        rw [show ρ_7 0 6 = nI S by subst_vars; rw [up2_k (by omega)]; exact hS]
        refine g_aaldN X 12 S 3 (by omega) lC_streets rfl (by omega) (by decide) dX3_street_64 ?_
        refine g_iload_n X dX3_street_65 2 rfl rfl ?_
        refine g_puti X (32 + 2 * S) (by omega) 2 (by decide) ku_X1 kv_X1 kf_X3_91 rfl tyX1 tyX1_ok nmX1 rfl (by decide +kernel) (lC_f_permits (by omega)) dX3_street_66 (fun ρ_8 eρ_8 => ?_)
        refine g_aload_n X dX3_street_69 0 rfl rfl ?_
        refine g_dup X dX3_street_70 rfl ?_
        refine g_geti X 0 (by omega) 6 (by decide) ku_X3 kv_X3 kf_X3_83 rfl lC_o_streetCount dX3_street_71 ?_
        rw [show ρ_8 0 6 = nI S by subst_vars; rw [up2_k (by omega), up2_k (by omega)]; exact hS]
        refine g_dup_x1 X dX3_street_74 rfl rfl ?_
        refine g_iconst X (v := 1) dX3_street_75 (by decide) ?_
        refine g_iadd X dX3_street_76 ?_
        refine g_puti X 0 (by omega) 6 (by decide) ku_X3 kv_X3 kf_X3_83 rfl tyX3 tyX3_ok nmX3 rfl (by decide +kernel) lC_o_streetCount dX3_street_77 (fun ρ_9 eρ_9 => ?_)
        exact g_xiret X hr hlk (by omega) (by omega) dX3_street_80 (by subst_vars; unfold strF; rw [if_pos ibx, if_pos ib21, if_neg (by rw [hS]; exact nI_ne (a := S) (b := 8) (by omega) (by omega) (by omega)), hS, show ix (nI S) = S from nI_clamp (by omega)])
      · skip
        exact g_throw X hE hl0 (names := ["java/lang/RuntimeException", "java/lang/Exception"]) (by decide +kernel) (by decide +kernel) kk_X3_44 ki_ISE kst_86 kh_ISE_48 kh_ISE_48g dX3_street_33 dX3_street_36 dX3_street_37 dX3_street_39 dX3_street_42 hxt ⟨Nat.le_of_ble_eq_true rfl, Nat.le_of_ble_eq_true rfl, Nat.le_of_ble_eq_true rfl, Nat.le_of_ble_eq_true rfl⟩ hlk (Or.inr ⟨rfl, by unfold strF; rw [if_pos ibx, if_pos ib21, if_pos (by rw [hS, show S = 8 by omega]; rfl)]⟩) (by omega) (by omega)
    · skip
      have cB := c_2
      exact g_throw X hE hl0 (names := ["java/lang/RuntimeException", "java/lang/Exception"]) (by decide +kernel) (by decide +kernel) kk_X3_75 ki_IAE kst_77 kh_IAE_79 kh_IAE_79g dX3_street_10 dX3_street_13 dX3_street_14 dX3_street_16 dX3_street_19 hxt ⟨Nat.le_of_ble_eq_true rfl, Nat.le_of_ble_eq_true rfl, Nat.le_of_ble_eq_true rfl, Nat.le_of_ble_eq_true rfl⟩ hlk (Or.inl ⟨rfl, by unfold strF; rw [if_neg (fun q => cB q.2)]⟩) (by omega) (by omega)

set_option maxHeartbeats 1000000 in
set_option maxRecDepth 100000 in
theorem c_X3_permit (l : Launch) (hl0 : l.stackTraces = false) (D : va_G) (cy : Nat → ClassId) (ad : Nat → Nat) (ρ : Nat → Nat → Int32) (N T S d : Nat) (hI : Inv ρ N T S d) (x y : Int32) : gXI l yX3_permit cX3_permit 4 (some .int) { frames := 7, cells := 3, slots := 18, locals := 111 } D cy 48 ad (cC ad cy) [.ref (ad 0), .int x, .int y] ρ (fun r ρ1 => perF ρ x y = (0, r, ρ1)) (xq2 "java/lang/IndexOutOfBoundsException" "java/lang/IllegalArgumentException" (perF ρ x y).1) 3 18 := by
  refine gXI_of (ls := [(0, .ref (ad 0)), (1, .int x), (2, .int y)]) RX3 rfl (by decide +kernel) (Nat.le_of_ble_eq_true rfl) rfl ?_
  intro p e s m args below meth c A X hE hxt hr hlk
  obtain ⟨hT, hT6, hS, hS8, hd, hdN, hN, hTu, hSt, hPi, hZ, hHd⟩ := id hI
  have hwd : wdF ρ = nI (d % 7) := by unfold wdF; rw [hd, nI_clamp (by omega)]
  refine g_aload_n X dX3_permit_0 0 rfl rfl ?_
  refine g_iload_n X dX3_permit_1 1 rfl rfl ?_
  refine g_xcallVv X hE 0 (c_X3_checkStreet l hl0 D cy ad ρ _) kl_X3_94 ⟨rfl, rfl, Nat.le_of_ble_eq_true rfl, Nat.le_of_ble_eq_true rfl⟩ (by omega) lC_O kv_X3 rfl rfl (Nat.le_of_ble_eq_true rfl) dX3_permit_2 ⟨Nat.le_of_ble_eq_true rfl, Nat.le_of_ble_eq_true rfl⟩ (g_out hxt hlk (fun E h => Or.inl ⟨h.1, by unfold perF; rw [if_neg h.2]⟩) (by omega) (by omega)) (fun ρ_1 h_3 => ?_)
  obtain ⟨e9, ib9⟩ := h_3
  rw [e9]
  obtain ⟨z, hz, rfl⟩ := inb_N hS (by omega) ib9
  have ibz := ib9
  have exz : ix (nI z) = z := nI_clamp (by omega)
  refine g_iload_n X dX3_permit_5 2 rfl rfl ?_
  refine g_xcallSv X hE (c_X3_checkPermits l hl0 D cy ad ρ _) kl_X3_80 ⟨rfl, rfl, Nat.le_of_ble_eq_true rfl, Nat.le_of_ble_eq_true rfl⟩ rfl rfl (Nat.le_of_ble_eq_true rfl) dX3_permit_6 ⟨Nat.le_of_ble_eq_true rfl, Nat.le_of_ble_eq_true rfl⟩ (g_out hxt hlk (fun E h => Or.inr ⟨h.1, by unfold perF; rw [if_pos ibz, if_neg h.2]⟩) (by omega) (by omega)) (fun ρ_4 h_6 => ?_)
  obtain ⟨e9, ib9⟩ := h_6
  rw [e9]
  have ib6 := ib9
  refine g_aload_n X dX3_permit_9 0 rfl rfl ?_
  refine g_getr X 0 (by omega) 3 (by decide) ku_X3 kv_X3 kf_X3_28 rfl lC_o_streets dX3_permit_10 ?_
  refine g_iload_n X dX3_permit_13 1 rfl rfl ?_
  refine g_aaldN X 12 z 3 (by omega) lC_streets rfl (by omega) (by decide) dX3_permit_14 ?_
  refine g_geti X (32 + 2 * z) (by omega) 2 (by decide) ku_X1 kv_X1 kf_X3_91 rfl (lC_f_permits (by omega)) dX3_permit_15 ?_
  refine g_istore_n X [(3, .int _), (0, .ref _), (1, .int _), (2, .int _)] dX3_permit_18 rfl (by decide) rfl ?_
  refine g_aload_n X dX3_permit_19 1 rfl rfl ?_
  refine g_getr X 0 (by omega) 3 (by decide) ku_X3 kv_X3 kf_X3_28 rfl lC_o_streets dX3_permit_20 ?_
  refine g_iload_n X dX3_permit_23 2 rfl rfl ?_
  refine g_aaldN X 12 z 3 (by omega) lC_streets rfl (by omega) (by decide) dX3_permit_24 ?_
  refine g_iload_n X dX3_permit_25 3 rfl rfl ?_
  refine g_puti X (32 + 2 * z) (by omega) 2 (by decide) ku_X1 kv_X1 kf_X3_91 rfl tyX1 tyX1_ok nmX1 rfl (by decide +kernel) (lC_f_permits (by omega)) dX3_permit_26 (fun ρ_7 eρ_7 => ?_)
  refine g_iload_n X dX3_permit_29 0 rfl rfl ?_
  exact g_xiret X hr hlk (by omega) (by omega) dX3_permit_30 (by subst_vars; unfold perF; rw [if_pos ibz, if_pos ib6, exz])

set_option maxHeartbeats 1000000 in
set_option maxRecDepth 100000 in
theorem c_X3_setDamp (l : Launch) (hl0 : l.stackTraces = false) (D : va_G) (cy : Nat → ClassId) (ad : Nat → Nat) (ρ : Nat → Nat → Int32) (N T S d : Nat) (hI : Inv ρ N T S d) (x y : Int32) : gXI l yX3_setDamp cX3_setDamp 4 (some .int) { frames := 6, cells := 3, slots := 18, locals := 90 } D cy 48 ad (cC ad cy) [.ref (ad 0), .int x, .int y] ρ (fun r ρ1 => damF ρ x y = (0, r, ρ1)) (xq2 "java/lang/IndexOutOfBoundsException" "java/lang/IllegalArgumentException" (damF ρ x y).1) 3 18 := by
  refine gXI_of (ls := [(0, .ref (ad 0)), (1, .int x), (2, .int y)]) RX3 rfl (by decide +kernel) (Nat.le_of_ble_eq_true rfl) rfl ?_
  intro p e s m args below meth c A X hE hxt hr hlk
  obtain ⟨hT, hT6, hS, hS8, hd, hdN, hN, hTu, hSt, hPi, hZ, hHd⟩ := id hI
  have hwd : wdF ρ = nI (d % 7) := by unfold wdF; rw [hd, nI_clamp (by omega)]
  refine g_iload_n X dX3_setDamp_0 1 rfl rfl ?_
  refine g_if_lt X 10 dX3_setDamp_1 (by decide) (fun c_1 => ?_) (fun c_1 => ?_)
  · skip
    have cA := c_1
    exact g_throw X hE hl0 (names := ["java/lang/RuntimeException", "java/lang/Exception"]) (by decide +kernel) (by decide +kernel) kk_X3_67 ki_IOB kst_97 kh_IOB_71 kh_IOB_71g dX3_setDamp_10 dX3_setDamp_13 dX3_setDamp_14 dX3_setDamp_16 dX3_setDamp_19 hxt ⟨Nat.le_of_ble_eq_true rfl, Nat.le_of_ble_eq_true rfl, Nat.le_of_ble_eq_true rfl, Nat.le_of_ble_eq_true rfl⟩ hlk (Or.inl ⟨rfl, by unfold damF; rw [if_neg (fun q => q.1 cA)]⟩) (by omega) (by omega)
  · skip
    have cA := c_1
    refine g_iload_n X dX3_setDamp_4 1 rfl rfl ?_
    refine g_bipush X (v := 7) dX3_setDamp_5 (by decide) ?_
    refine g_icmp_lt X 20 dX3_setDamp_7 (by decide) (fun c_2 => ?_) (fun c_2 => ?_)
    · skip
      have ibw : inb x 7 := ⟨cA, c_2⟩
      obtain ⟨k, hk, rfl⟩ := inb_N (T := 7) rfl (by omega) ibw
      have exk : ix (nI k) = k := nI_clamp (by omega)
      refine g_iload_n X dX3_setDamp_20 2 rfl rfl ?_
      refine g_if_lt X 29 dX3_setDamp_21 (by decide) (fun c_3 => ?_) (fun c_3 => ?_)
      · skip
        have cC := c_3
        exact g_throw X hE hl0 (names := ["java/lang/RuntimeException", "java/lang/Exception"]) (by decide +kernel) (by decide +kernel) kk_X3_75 ki_IAE kst_99 kh_IAE_79 kh_IAE_79g dX3_setDamp_29 dX3_setDamp_32 dX3_setDamp_33 dX3_setDamp_35 dX3_setDamp_38 hxt ⟨Nat.le_of_ble_eq_true rfl, Nat.le_of_ble_eq_true rfl, Nat.le_of_ble_eq_true rfl, Nat.le_of_ble_eq_true rfl⟩ hlk (Or.inr ⟨rfl, by unfold damF; rw [if_pos ibw, if_neg (fun q => q.1 cC)]⟩) (by omega) (by omega)
      · skip
        have cC := c_3
        refine g_iload_n X dX3_setDamp_24 2 rfl rfl ?_
        refine g_iconst X (v := 5) dX3_setDamp_25 (by decide) ?_
        refine g_icmp_le X 39 dX3_setDamp_26 (by decide) (fun c_4 => ?_) (fun c_4 => ?_)
        · skip
          have cD := c_4
          refine g_aload_n X dX3_setDamp_39 0 rfl rfl ?_
          refine g_getr X 0 (by omega) 4 (by decide) ku_X3 kv_X3 kf_X3_33 rfl lC_o_damp dX3_setDamp_40 ?_
          refine g_iload_n X dX3_setDamp_43 1 rfl rfl ?_
          refine g_ialdN X 13 k (by omega) lC_damp (by omega) (by decide) dX3_setDamp_44 ?_
          refine g_istore_n X [(3, .int _), (0, .ref _), (1, .int _), (2, .int _)] dX3_setDamp_45 rfl (by decide) rfl ?_
          refine g_aload_n X dX3_setDamp_46 1 rfl rfl ?_
          refine g_getr X 0 (by omega) 4 (by decide) ku_X3 kv_X3 kf_X3_33 rfl lC_o_damp dX3_setDamp_47 ?_
          refine g_iload_n X dX3_setDamp_50 2 rfl rfl ?_
          refine g_iload_n X dX3_setDamp_51 3 rfl rfl ?_
          refine g_iastN X 13 k (by omega) lC_damp (by omega) (by decide) dX3_setDamp_52 (fun ρ_5 eρ_5 => ?_)
          refine g_iload_n X dX3_setDamp_53 0 rfl rfl ?_
          exact g_xiret X hr hlk (by omega) (by omega) dX3_setDamp_54 (by subst_vars; unfold damF; rw [if_pos ibw, if_pos ⟨cC, cD⟩, exk])
        · skip
          have cD := c_4
          exact g_throw X hE hl0 (names := ["java/lang/RuntimeException", "java/lang/Exception"]) (by decide +kernel) (by decide +kernel) kk_X3_75 ki_IAE kst_99 kh_IAE_79 kh_IAE_79g dX3_setDamp_29 dX3_setDamp_32 dX3_setDamp_33 dX3_setDamp_35 dX3_setDamp_38 hxt ⟨Nat.le_of_ble_eq_true rfl, Nat.le_of_ble_eq_true rfl, Nat.le_of_ble_eq_true rfl, Nat.le_of_ble_eq_true rfl⟩ hlk (Or.inr ⟨rfl, by unfold damF; rw [if_pos ibw, if_neg (fun q => cD q.2)]⟩) (by omega) (by omega)
    · skip
      have cB := c_2
      exact g_throw X hE hl0 (names := ["java/lang/RuntimeException", "java/lang/Exception"]) (by decide +kernel) (by decide +kernel) kk_X3_67 ki_IOB kst_97 kh_IOB_71 kh_IOB_71g dX3_setDamp_10 dX3_setDamp_13 dX3_setDamp_14 dX3_setDamp_16 dX3_setDamp_19 hxt ⟨Nat.le_of_ble_eq_true rfl, Nat.le_of_ble_eq_true rfl, Nat.le_of_ble_eq_true rfl, Nat.le_of_ble_eq_true rfl⟩ hlk (Or.inl ⟨rfl, by unfold damF; rw [if_neg (fun q => cB q.2)]⟩) (by omega) (by omega)

set_option maxHeartbeats 1000000 in
set_option maxRecDepth 100000 in
theorem c_X3_play (l : Launch) (hl0 : l.stackTraces = false) (D : va_G) (cy : Nat → ClassId) (ad : Nat → Nat) (ρ : Nat → Nat → Int32) (N T S d : Nat) (hI : Inv ρ N T S d) (x y : Int32) : gXI l yX3_play cX3_play 4 (some .int) { frames := 7, cells := 3, slots := 18, locals := 111 } D cy 48 ad (cC ad cy) [.ref (ad 0), .int x, .int y] ρ (fun r ρ1 => plaF ρ x y = (0, r, ρ1)) (xq2 "java/lang/IndexOutOfBoundsException" "java/lang/IllegalStateException" (plaF ρ x y).1) 3 18 := by
  refine gXI_of (ls := [(0, .ref (ad 0)), (1, .int x), (2, .int y)]) RX3 rfl (by decide +kernel) (Nat.le_of_ble_eq_true rfl) rfl ?_
  intro p e s m args below meth c A X hE hxt hr hlk
  obtain ⟨hT, hT6, hS, hS8, hd, hdN, hN, hTu, hSt, hPi, hZ, hHd⟩ := id hI
  have hwd : wdF ρ = nI (d % 7) := by unfold wdF; rw [hd, nI_clamp (by omega)]
  refine g_aload_n X dX3_play_0 0 rfl rfl ?_
  refine g_iload_n X dX3_play_1 1 rfl rfl ?_
  refine g_xcallVv X hE 0 (c_X3_checkStreet l hl0 D cy ad ρ _) kl_X3_94 ⟨rfl, rfl, Nat.le_of_ble_eq_true rfl, Nat.le_of_ble_eq_true rfl⟩ (by omega) lC_O kv_X3 rfl rfl (Nat.le_of_ble_eq_true rfl) dX3_play_2 ⟨Nat.le_of_ble_eq_true rfl, Nat.le_of_ble_eq_true rfl⟩ (g_out hxt hlk (fun E h => Or.inl ⟨h.1, by unfold plaF; rw [if_neg h.2]⟩) (by omega) (by omega)) (fun ρ_1 h_3 => ?_)
  obtain ⟨e9, ib9⟩ := h_3
  rw [e9]
  obtain ⟨z, hz, rfl⟩ := inb_N hS (by omega) ib9
  have ibz := ib9
  have exz : ix (nI z) = z := nI_clamp (by omega)
  refine g_aload_n X dX3_play_5 0 rfl rfl ?_
  refine g_iload_n X dX3_play_6 2 rfl rfl ?_
  refine g_xcallVv X hE 0 (c_X3_checkTune l hl0 D cy ad ρ _) kl_X3_51 ⟨rfl, rfl, Nat.le_of_ble_eq_true rfl, Nat.le_of_ble_eq_true rfl⟩ (by omega) lC_O kv_X3 rfl rfl (Nat.le_of_ble_eq_true rfl) dX3_play_7 ⟨Nat.le_of_ble_eq_true rfl, Nat.le_of_ble_eq_true rfl⟩ (g_out hxt hlk (fun E h => Or.inl ⟨h.1, by unfold plaF; rw [if_pos ibz, if_neg h.2]⟩) (by omega) (by omega)) (fun ρ_4 h_6 => ?_)
  obtain ⟨e9, ib9⟩ := h_6
  rw [e9]
  obtain ⟨t, ht, rfl⟩ := inb_N hT (by omega) ib9
  have ibt := ib9
  have ext : ix (nI t) = t := nI_clamp (by omega)
  refine g_aload_n X dX3_play_10 0 rfl rfl ?_
  refine g_getr X 0 (by omega) 2 (by decide) ku_X3 kv_X3 kf_X3_21 rfl lC_o_tunes dX3_play_11 ?_
  refine g_iload_n X dX3_play_14 2 rfl rfl ?_
  refine g_aaldN X 11 t 2 (by omega) lC_tunes rfl (by omega) (by decide) dX3_play_15 ?_
  refine g_geti X (14 + 3 * t) (by omega) 2 (by decide) ku_X2 kv_X2 kf_X3_58 rfl (lC_f_length (by omega)) dX3_play_16 ?_
  refine g_if_ne X 32 dX3_play_19 (by decide) (fun c_7 => ?_) (fun c_7 => ?_)
  · skip
    have cL := c_7
    refine g_aload_n X dX3_play_32 0 rfl rfl ?_
    refine g_getr X 0 (by omega) 3 (by decide) ku_X3 kv_X3 kf_X3_28 rfl lC_o_streets dX3_play_33 ?_
    refine g_iload_n X dX3_play_36 1 rfl rfl ?_
    refine g_aaldN X 12 z 3 (by omega) lC_streets rfl (by omega) (by decide) dX3_play_37 ?_
    refine g_aload_n X dX3_play_38 0 rfl rfl ?_
    refine g_geti X 0 (by omega) 7 (by decide) ku_X3 kv_X3 kf_X3_103 rfl lC_o_day dX3_play_39 ?_
    rw [show ρ 0 7 = nI d from hd]
    refine g_mcallSi X (c_X3_weekdayOf l D cy ad ρ d (by omega)) kl_X3_106 ⟨rfl, rfl, Nat.le_of_ble_eq_true rfl, Nat.le_of_ble_eq_true rfl⟩ rfl rfl (Nat.le_of_ble_eq_true rfl) dX3_play_42 ⟨Nat.le_of_ble_eq_true rfl, Nat.le_of_ble_eq_true rfl⟩ (fun r_9 ρ_8 h_10 => ?_)
    obtain ⟨er_9, e9⟩ := h_10
    rw [e9, er_9]
    clear e9
    refine g_mcallVi X (32 + 2 * z) (c_X1_isPermittedOn l D cy ad ρ z _ (by omega)) kl_X3_109 ⟨rfl, rfl, Nat.le_of_ble_eq_true rfl, Nat.le_of_ble_eq_true rfl⟩ (by omega) (lC_S (by omega)) kv_X1 rfl rfl (Nat.le_of_ble_eq_true rfl) dX3_play_45 ⟨Nat.le_of_ble_eq_true rfl, Nat.le_of_ble_eq_true rfl⟩ (fun r_12 ρ_11 h_13 => ?_)
    obtain ⟨er_12, e9⟩ := h_13
    rw [e9, er_12]
    clear e9
    refine g_if_ne X 57 dX3_play_48 (by decide) (fun c_14 => ?_) (fun c_14 => ?_)
    · skip
      have cP := c_14
      refine g_aload_n X dX3_play_57 0 rfl rfl ?_
      refine g_iload_n X dX3_play_58 1 rfl rfl ?_
      refine g_iload_n X dX3_play_59 2 rfl rfl ?_
      refine g_mcallVi X 0 (c_X3_payNow l D cy ad ρ z t (by omega) (by omega) (Inv_pay hI (by omega) (by omega))) kl_X3_117 ⟨rfl, rfl, Nat.le_of_ble_eq_true rfl, Nat.le_of_ble_eq_true rfl⟩ (by omega) lC_O kv_X3 rfl rfl (Nat.le_of_ble_eq_true rfl) dX3_play_60 ⟨Nat.le_of_ble_eq_true rfl, Nat.le_of_ble_eq_true rfl⟩ (fun r_16 ρ_15 h_17 => ?_)
      obtain ⟨er_16, e9⟩ := h_17
      rw [e9, er_16]
      clear e9
      refine g_istore_n X [(3, .int _), (0, .ref _), (1, .int _), (2, .int _)] dX3_play_63 rfl (by decide) rfl ?_
      refine g_aload_n X dX3_play_64 1 rfl rfl ?_
      refine g_dup X dX3_play_65 rfl ?_
      refine g_geti X 0 (by omega) 8 (by decide) ku_X3 kv_X3 kf_X3_37 rfl lC_o_coins dX3_play_66 ?_
      refine g_iload_n X dX3_play_69 0 rfl rfl ?_
      refine g_iadd X dX3_play_70 ?_
      refine g_puti X 0 (by omega) 8 (by decide) ku_X3 kv_X3 kf_X3_37 rfl tyX3 tyX3_ok nmX3 rfl (by decide +kernel) lC_o_coins dX3_play_71 (fun ρ_18 eρ_18 => ?_)
      refine g_aload_n X dX3_play_74 1 rfl rfl ?_
      refine g_getr X 0 (by omega) 3 (by decide) ku_X3 kv_X3 kf_X3_28 rfl lC_o_streets dX3_play_75 ?_
      refine g_iload_n X dX3_play_78 2 rfl rfl ?_
      refine g_aaldN X 12 z 3 (by omega) lC_streets rfl (by omega) (by decide) dX3_play_79 ?_
      refine g_dup X dX3_play_80 rfl ?_
      refine g_geti X (32 + 2 * z) (by omega) 3 (by decide) ku_X1 kv_X1 kf_X3_121 rfl (lC_f_paid (by omega)) dX3_play_81 ?_
      rw [show ρ_18 (32 + 2 * z) 3 = ρ (32 + 2 * z) 3 by subst_vars; rw [up2_k (by omega)]]
      refine g_iload_n X dX3_play_84 0 rfl rfl ?_
      refine g_iadd X dX3_play_85 ?_
      refine g_puti X (32 + 2 * z) (by omega) 3 (by decide) ku_X1 kv_X1 kf_X3_121 rfl tyX1 tyX1_ok nmX1 rfl (by decide +kernel) (lC_f_paid (by omega)) dX3_play_86 (fun ρ_19 eρ_19 => ?_)
      refine g_aload_n X dX3_play_89 1 rfl rfl ?_
      refine g_getr X 0 (by omega) 3 (by decide) ku_X3 kv_X3 kf_X3_28 rfl lC_o_streets dX3_play_90 ?_
      refine g_iload_n X dX3_play_93 2 rfl rfl ?_
      refine g_aaldN X 12 z 3 (by omega) lC_streets rfl (by omega) (by decide) dX3_play_94 ?_
      refine g_getr X (32 + 2 * z) (by omega) 0 (by decide) ku_X1 kv_X1 kf_X3_124 rfl (lC_f_heard (by omega)) dX3_play_95 ?_
      refine g_iload_n X dX3_play_98 3 rfl rfl ?_
      refine g_dup2 X dX3_play_99 rfl rfl ?_
      refine g_ialdN X (33 + 2 * z) t (by omega) (lC_heard (by omega)) (by omega) (by decide) dX3_play_100 ?_
      rw [show ρ_19 (33 + 2 * z) t = ρ (33 + 2 * z) t by subst_vars; rw [up2_k (by omega), up2_k (by omega)]]
      refine g_iconst X (v := 1) dX3_play_101 (by decide) ?_
      refine g_iadd X dX3_play_102 ?_
      refine g_iastN X (33 + 2 * z) t (by omega) (lC_heard (by omega)) (by omega) (by decide) dX3_play_103 (fun ρ_20 eρ_20 => ?_)
      refine g_aload_n X dX3_play_104 1 rfl rfl ?_
      refine g_getr X 0 (by omega) 2 (by decide) ku_X3 kv_X3 kf_X3_21 rfl lC_o_tunes dX3_play_105 ?_
      refine g_iload_n X dX3_play_108 3 rfl rfl ?_
      refine g_aaldN X 11 t 2 (by omega) lC_tunes rfl (by omega) (by decide) dX3_play_109 ?_
      refine g_aload_n X dX3_play_110 1 rfl rfl ?_
      refine g_getr X 0 (by omega) 0 (by decide) ku_X3 kv_X3 kf_X3_10 rfl lC_o_pipes dX3_play_111 ?_
      refine g_mcallVv X (14 + 3 * t) (c_X2_wearDown l D cy ad ρ_20 t 1 (by omega) (Or.inl rfl)) kl_X3_127 ⟨rfl, rfl, Nat.le_of_ble_eq_true rfl, Nat.le_of_ble_eq_true rfl⟩ (by omega) (lC_T (by omega)) kv_X2 rfl rfl (Nat.le_of_ble_eq_true rfl) dX3_play_114 ⟨Nat.le_of_ble_eq_true rfl, Nat.le_of_ble_eq_true rfl⟩ (fun ρ_21 h_23 => ?_)
      refine g_iload_n X dX3_play_117 0 rfl rfl ?_
      exact g_xiret X hr hlk (by omega) (by omega) dX3_play_118 (by subst_vars; unfold plaF; rw [if_pos ibz, if_pos ibt, if_neg (by rw [ext]; exact cL), if_neg (by rw [exz, hwd]; exact cP), exz, ext]; rfl)
    · skip
      have cP := c_14
      refine g_aload_n X dX3_play_51 0 rfl rfl ?_
      refine g_mcallVi X 0 (c_X3_payFine l D cy ad ρ ) kl_X3_113 ⟨rfl, rfl, Nat.le_of_ble_eq_true rfl, Nat.le_of_ble_eq_true rfl⟩ (by omega) lC_O kv_X3 rfl rfl (Nat.le_of_ble_eq_true rfl) dX3_play_52 ⟨Nat.le_of_ble_eq_true rfl, Nat.le_of_ble_eq_true rfl⟩ (fun r_25 ρ_24 h_26 => ?_)
      obtain ⟨er_25, eρ_24⟩ := h_26
      refine g_ineg X dX3_play_55 ?_
      exact g_xiret X hr hlk (by omega) (by omega) dX3_play_56 (by subst_vars; unfold plaF; rw [if_pos ibz, if_pos ibt, if_neg (by rw [ext]; exact cL), if_pos (by rw [exz, hwd]; exact cP)])
  · skip
    have cL := c_7
    exact g_throw X hE hl0 (names := ["java/lang/RuntimeException", "java/lang/Exception"]) (by decide +kernel) (by decide +kernel) kk_X3_44 ki_ISE kst_101 kh_ISE_48 kh_ISE_48g dX3_play_22 dX3_play_25 dX3_play_26 dX3_play_28 dX3_play_31 hxt ⟨Nat.le_of_ble_eq_true rfl, Nat.le_of_ble_eq_true rfl, Nat.le_of_ble_eq_true rfl, Nat.le_of_ble_eq_true rfl⟩ hlk (Or.inr ⟨rfl, by unfold plaF; rw [if_pos ibz, if_pos ibt, if_pos (by rw [ext]; exact cL)]⟩) (by omega) (by omega)

set_option maxHeartbeats 1000000 in
set_option maxRecDepth 100000 in
theorem c_X3_tune (l : Launch) (hl0 : l.stackTraces = false) (D : va_G) (cy : Nat → ClassId) (ad : Nat → Nat) (ρ : Nat → Nat → Int32) (N T S d : Nat) (hI : Inv ρ N T S d) (x y : Int32) : gXI l yX3_tune cX3_tune 3 (some .int) { frames := 7, cells := 3, slots := 18, locals := 110 } D cy 48 ad (cC ad cy) [.ref (ad 0), .int x, .int y] ρ (fun r ρ1 => tunF ρ x y = (0, r, ρ1)) (xq2 "java/lang/IndexOutOfBoundsException" "java/lang/IllegalArgumentException" (tunF ρ x y).1) 3 18 := by
  refine gXI_of (ls := [(0, .ref (ad 0)), (1, .int x), (2, .int y)]) RX3 rfl (by decide +kernel) (Nat.le_of_ble_eq_true rfl) rfl ?_
  intro p e s m args below meth c A X hE hxt hr hlk
  obtain ⟨hT, hT6, hS, hS8, hd, hdN, hN, hTu, hSt, hPi, hZ, hHd⟩ := id hI
  have hwd : wdF ρ = nI (d % 7) := by unfold wdF; rw [hd, nI_clamp (by omega)]
  refine g_iload_n X dX3_tune_0 1 rfl rfl ?_
  refine g_xcallSv X hE (c_X3_checkPipe l hl0 D cy ad ρ _) kl_X3_55 ⟨rfl, rfl, Nat.le_of_ble_eq_true rfl, Nat.le_of_ble_eq_true rfl⟩ rfl rfl (Nat.le_of_ble_eq_true rfl) dX3_tune_1 ⟨Nat.le_of_ble_eq_true rfl, Nat.le_of_ble_eq_true rfl⟩ (g_out hxt hlk (fun E h => Or.inl ⟨h.1, by unfold tunF; rw [if_neg h.2]⟩) (by omega) (by omega)) (fun ρ_1 h_3 => ?_)
  obtain ⟨e9, ib9⟩ := h_3
  rw [e9]
  obtain ⟨i, hi, rfl⟩ := inb_N (T := 12) rfl (by omega) ib9
  have ibi := ib9
  have exi : ix (nI i) = i := nI_clamp (by omega)
  refine g_iload_n X dX3_tune_4 2 rfl rfl ?_
  refine g_bipush X (v := -120) dX3_tune_5 (by decide) ?_
  refine g_icmp_lt X 16 dX3_tune_7 (by decide) (fun c_4 => ?_) (fun c_4 => ?_)
  · skip
    have cA := c_4
    exact g_throw X hE hl0 (names := ["java/lang/RuntimeException", "java/lang/Exception"]) (by decide +kernel) (by decide +kernel) kk_X3_75 ki_IAE kst_131 kh_IAE_79 kh_IAE_79g dX3_tune_16 dX3_tune_19 dX3_tune_20 dX3_tune_22 dX3_tune_25 hxt ⟨Nat.le_of_ble_eq_true rfl, Nat.le_of_ble_eq_true rfl, Nat.le_of_ble_eq_true rfl, Nat.le_of_ble_eq_true rfl⟩ hlk (Or.inr ⟨rfl, by unfold tunF; rw [if_pos ibi, if_neg (fun q => q.1 cA)]⟩) (by omega) (by omega)
  · skip
    have cA := c_4
    refine g_iload_n X dX3_tune_10 2 rfl rfl ?_
    refine g_bipush X (v := 120) dX3_tune_11 (by decide) ?_
    refine g_icmp_le X 26 dX3_tune_13 (by decide) (fun c_5 => ?_) (fun c_5 => ?_)
    · skip
      have cB := c_5
      refine g_aload_n X dX3_tune_26 0 rfl rfl ?_
      refine g_getr X 0 (by omega) 0 (by decide) ku_X3 kv_X3 kf_X3_10 rfl lC_o_pipes dX3_tune_27 ?_
      refine g_iload_n X dX3_tune_30 1 rfl rfl ?_
      refine g_iload_n X dX3_tune_31 2 rfl rfl ?_
      refine g_mcallVv X 1 (c_X0_shift l D cy ad ρ 1 i _ (Or.inl rfl) (by omega)) kl_X3_133 ⟨rfl, rfl, Nat.le_of_ble_eq_true rfl, Nat.le_of_ble_eq_true rfl⟩ (by omega) (lC_P (Or.inl rfl)) kv_X0 rfl rfl (Nat.le_of_ble_eq_true rfl) dX3_tune_32 ⟨Nat.le_of_ble_eq_true rfl, Nat.le_of_ble_eq_true rfl⟩ (fun ρ_6 h_8 => ?_)
      refine g_aload_n X dX3_tune_35 0 rfl rfl ?_
      refine g_getr X 0 (by omega) 0 (by decide) ku_X3 kv_X3 kf_X3_10 rfl lC_o_pipes dX3_tune_36 ?_
      refine g_getr X 1 (by omega) 1 (by decide) ku_X0 kv_X0 kf_X3_137 rfl (lC_f_off (Or.inl rfl)) dX3_tune_39 ?_
      refine g_iload_n X dX3_tune_42 1 rfl rfl ?_
      refine g_ialdN X (1 + 2) i (by omega) (lC_off (Or.inl rfl)) (by omega) (by decide) dX3_tune_43 ?_
      exact g_xiret X hr hlk (by omega) (by omega) dX3_tune_44 (by subst_vars; unfold tunF; rw [if_pos ibi, if_pos ⟨cA, cB⟩, exi, up2_s])
    · skip
      have cB := c_5
      exact g_throw X hE hl0 (names := ["java/lang/RuntimeException", "java/lang/Exception"]) (by decide +kernel) (by decide +kernel) kk_X3_75 ki_IAE kst_131 kh_IAE_79 kh_IAE_79g dX3_tune_16 dX3_tune_19 dX3_tune_20 dX3_tune_22 dX3_tune_25 hxt ⟨Nat.le_of_ble_eq_true rfl, Nat.le_of_ble_eq_true rfl, Nat.le_of_ble_eq_true rfl, Nat.le_of_ble_eq_true rfl⟩ hlk (Or.inr ⟨rfl, by unfold tunF; rw [if_pos ibi, if_neg (fun q => cB q.2)]⟩) (by omega) (by omega)

set_option maxHeartbeats 1000000 in
set_option maxRecDepth 100000 in
theorem c_X3_felt (l : Launch) (hl0 : l.stackTraces = false) (D : va_G) (cy : Nat → ClassId) (ad : Nat → Nat) (ρ : Nat → Nat → Int32) (N T S d : Nat) (hI : Inv ρ N T S d) (x : Int32) : gXI l yX3_felt cX3_felt 3 (some .int) { frames := 7, cells := 3, slots := 18, locals := 110 } D cy 48 ad (cC ad cy) [.ref (ad 0), .int x] ρ (fun r ρ1 => felF ρ x = (0, r, ρ1)) (xq2 "java/lang/IndexOutOfBoundsException" "java/lang/IllegalStateException" (felF ρ x).1) 3 18 := by
  refine gXI_of (ls := [(0, .ref (ad 0)), (1, .int x)]) RX3 rfl (by decide +kernel) (Nat.le_of_ble_eq_true rfl) rfl ?_
  intro p e s m args below meth c A X hE hxt hr hlk
  obtain ⟨hT, hT6, hS, hS8, hd, hdN, hN, hTu, hSt, hPi, hZ, hHd⟩ := id hI
  have hwd : wdF ρ = nI (d % 7) := by unfold wdF; rw [hd, nI_clamp (by omega)]
  refine g_iload_n X dX3_felt_0 1 rfl rfl ?_
  refine g_xcallSv X hE (c_X3_checkPipe l hl0 D cy ad ρ _) kl_X3_55 ⟨rfl, rfl, Nat.le_of_ble_eq_true rfl, Nat.le_of_ble_eq_true rfl⟩ rfl rfl (Nat.le_of_ble_eq_true rfl) dX3_felt_1 ⟨Nat.le_of_ble_eq_true rfl, Nat.le_of_ble_eq_true rfl⟩ (g_out hxt hlk (fun E h => Or.inl ⟨h.1, by unfold felF; rw [if_neg h.2]⟩) (by omega) (by omega)) (fun ρ_1 h_3 => ?_)
  obtain ⟨e9, ib9⟩ := h_3
  rw [e9]
  obtain ⟨i, hi, rfl⟩ := inb_N (T := 12) rfl (by omega) ib9
  have ibi := ib9
  have exi : ix (nI i) = i := nI_clamp (by omega)
  refine g_aload_n X dX3_felt_4 0 rfl rfl ?_
  refine g_geti X 0 (by omega) 8 (by decide) ku_X3 kv_X3 kf_X3_37 rfl lC_o_coins dX3_felt_5 ?_
  refine g_iconst X (v := 4) dX3_felt_8 (by decide) ?_
  refine g_icmp_ge X 22 dX3_felt_9 (by decide) (fun c_4 => ?_) (fun c_4 => ?_)
  · skip
    have cA := c_4
    refine g_aload_n X dX3_felt_22 0 rfl rfl ?_
    refine g_dup X dX3_felt_23 rfl ?_
    refine g_geti X 0 (by omega) 8 (by decide) ku_X3 kv_X3 kf_X3_37 rfl lC_o_coins dX3_felt_24 ?_
    refine g_iconst X (v := 4) dX3_felt_27 (by decide) ?_
    refine g_isub X dX3_felt_28 ?_
    refine g_puti X 0 (by omega) 8 (by decide) ku_X3 kv_X3 kf_X3_37 rfl tyX3 tyX3_ok nmX3 rfl (by decide +kernel) lC_o_coins dX3_felt_29 (fun ρ_5 eρ_5 => ?_)
    refine g_aload_n X dX3_felt_32 0 rfl rfl ?_
    refine g_getr X 0 (by omega) 0 (by decide) ku_X3 kv_X3 kf_X3_10 rfl lC_o_pipes dX3_felt_33 ?_
    refine g_getr X 1 (by omega) 0 (by decide) ku_X0 kv_X0 kf_X3_142 rfl (lC_f_worn (Or.inl rfl)) dX3_felt_36 ?_
    refine g_iload_n X dX3_felt_39 1 rfl rfl ?_
    refine g_ialdN X (1 + 1) i (by omega) (lC_worn (Or.inl rfl)) (by omega) (by decide) dX3_felt_40 ?_
    rw [show ρ_5 (1 + 1) i = ρ 2 i by subst_vars; rw [up2_k (by omega)]]
    refine g_istore_n X [(2, .int _), (0, .ref _), (1, .int _)] dX3_felt_41 rfl (by decide) rfl ?_
    refine g_aload_n X dX3_felt_42 1 rfl rfl ?_
    refine g_getr X 0 (by omega) 0 (by decide) ku_X3 kv_X3 kf_X3_10 rfl lC_o_pipes dX3_felt_43 ?_
    refine g_getr X 1 (by omega) 0 (by decide) ku_X0 kv_X0 kf_X3_142 rfl (lC_f_worn (Or.inl rfl)) dX3_felt_46 ?_
    refine g_iload_n X dX3_felt_49 2 rfl rfl ?_
    refine g_iconst X (v := 0) dX3_felt_50 (by decide) ?_
    refine g_iastN X (1 + 1) i (by omega) (lC_worn (Or.inl rfl)) (by omega) (by decide) dX3_felt_51 (fun ρ_6 eρ_6 => ?_)
    refine g_iload_n X dX3_felt_52 0 rfl rfl ?_
    exact g_xiret X hr hlk (by omega) (by omega) dX3_felt_53 (by subst_vars; unfold felF; rw [if_pos ibi, if_neg (Int32.not_lt.mpr cA), exi])
  · skip
    have cA := c_4
    exact g_throw X hE hl0 (names := ["java/lang/RuntimeException", "java/lang/Exception"]) (by decide +kernel) (by decide +kernel) kk_X3_44 ki_ISE kst_140 kh_ISE_48 kh_ISE_48g dX3_felt_12 dX3_felt_15 dX3_felt_16 dX3_felt_18 dX3_felt_21 hxt ⟨Nat.le_of_ble_eq_true rfl, Nat.le_of_ble_eq_true rfl, Nat.le_of_ble_eq_true rfl, Nat.le_of_ble_eq_true rfl⟩ hlk (Or.inr ⟨rfl, by unfold felF; rw [if_pos ibi, if_pos (Int32.not_le.mp cA)]⟩) (by omega) (by omega)

set_option maxHeartbeats 1000000 in
set_option maxRecDepth 100000 in
theorem c_X3_chase (l : Launch) (D : va_G) (cy : Nat → ClassId) (ad : Nat → Nat) (ρ : Nat → Nat → Int32)  : gMI l yX3_chase cX3_chase 2 (some .int) { frames := 1, cells := 0, slots := 0, locals := 22 } D cy 48 ad (cC ad cy) [.ref (ad 0)] ρ (fun r ρ1 => r = crc ρ 1 ∧ ρ1 = clrR ρ 1 12) 0 0 := by
  refine gMI_of (ls := [(0, .ref (ad 0))]) RX3 rfl (by decide +kernel) (Nat.le_of_ble_eq_true rfl) rfl ?_
  intro p e s m args below meth c A X hr hlk hnm
  refine g_aload_n X dX3_chase_0 0 rfl rfl ?_
  refine g_getr X 0 (by omega) 0 (by decide) ku_X3 kv_X3 kf_X3_10 rfl lC_o_pipes dX3_chase_1 ?_
  refine g_mcallVi X 1 (c_X0_cricketCount l D cy ad ρ 1 (Or.inl rfl)) kl_X3_145 ⟨rfl, rfl, Nat.le_of_ble_eq_true rfl, Nat.le_of_ble_eq_true rfl⟩ (by omega) (lC_P (Or.inl rfl)) kv_X0 rfl rfl (Nat.le_of_ble_eq_true rfl) dX3_chase_4 ⟨Nat.le_of_ble_eq_true rfl, Nat.le_of_ble_eq_true rfl⟩ (fun r_2 ρ_1 h_3 => ?_)
  obtain ⟨er_2, e9⟩ := h_3
  rw [e9, er_2]
  clear e9
  refine g_istore_n X [(1, .int _), (0, .ref _)] dX3_chase_7 rfl (by decide) rfl ?_
  refine g_aload_n X dX3_chase_8 1 rfl rfl ?_
  refine g_getr X 0 (by omega) 0 (by decide) ku_X3 kv_X3 kf_X3_10 rfl lC_o_pipes dX3_chase_9 ?_
  refine g_mcallVv X 1 (c_X0_clearCrickets l D cy ad ρ 1 (Or.inl rfl)) kl_X3_148 ⟨rfl, rfl, Nat.le_of_ble_eq_true rfl, Nat.le_of_ble_eq_true rfl⟩ (by omega) (lC_P (Or.inl rfl)) kv_X0 rfl rfl (Nat.le_of_ble_eq_true rfl) dX3_chase_12 ⟨Nat.le_of_ble_eq_true rfl, Nat.le_of_ble_eq_true rfl⟩ (fun ρ_4 h_6 => ?_)
  refine g_iload_n X dX3_chase_15 0 rfl rfl ?_
  exact g_iret X hr hlk (by omega) (by omega) dX3_chase_16 (by subst_vars; exact ⟨rfl, rfl⟩)

set_option maxHeartbeats 1000000 in
set_option maxRecDepth 100000 in
theorem c_X3_pipe (l : Launch) (hl0 : l.stackTraces = false) (D : va_G) (cy : Nat → ClassId) (ad : Nat → Nat) (ρ : Nat → Nat → Int32) (N T S d : Nat) (hI : Inv ρ N T S d) (x y : Int32) : gXI l yX3_pipe cX3_pipe 3 (some .int) { frames := 7, cells := 3, slots := 18, locals := 110 } D cy 48 ad (cC ad cy) [.ref (ad 0), .int x, .int y] ρ (fun r ρ1 => pipF ρ x y = (0, r, ρ1)) (xq1 "java/lang/IndexOutOfBoundsException" (pipF ρ x y).1) 3 18 := by
  refine gXI_of (ls := [(0, .ref (ad 0)), (1, .int x), (2, .int y)]) RX3 rfl (by decide +kernel) (Nat.le_of_ble_eq_true rfl) rfl ?_
  intro p e s m args below meth c A X hE hxt hr hlk
  obtain ⟨hT, hT6, hS, hS8, hd, hdN, hN, hTu, hSt, hPi, hZ, hHd⟩ := id hI
  have hwd : wdF ρ = nI (d % 7) := by unfold wdF; rw [hd, nI_clamp (by omega)]
  refine g_iload_n X dX3_pipe_0 1 rfl rfl ?_
  refine g_xcallSv X hE (c_X3_checkPipe l hl0 D cy ad ρ _) kl_X3_55 ⟨rfl, rfl, Nat.le_of_ble_eq_true rfl, Nat.le_of_ble_eq_true rfl⟩ rfl rfl (Nat.le_of_ble_eq_true rfl) dX3_pipe_1 ⟨Nat.le_of_ble_eq_true rfl, Nat.le_of_ble_eq_true rfl⟩ (g_out hxt hlk (fun E h => ⟨h.1, by unfold pipF; rw [if_neg h.2]⟩) (by omega) (by omega)) (fun ρ_1 h_3 => ?_)
  obtain ⟨e9, ib9⟩ := h_3
  rw [e9]
  obtain ⟨i, hi, rfl⟩ := inb_N (T := 12) rfl (by omega) ib9
  have ibi := ib9
  have exi : ix (nI i) = i := nI_clamp (by omega)
  refine g_iload_n X dX3_pipe_4 2 rfl rfl ?_
  refine g_if_lt X 13 dX3_pipe_5 (by decide) (fun c_4 => ?_) (fun c_4 => ?_)
  · skip
    have cA := c_4
    exact g_throw X hE hl0 (names := ["java/lang/RuntimeException", "java/lang/Exception"]) (by decide +kernel) (by decide +kernel) kk_X3_67 ki_IOB kst_151 kh_IOB_71 kh_IOB_71g dX3_pipe_13 dX3_pipe_16 dX3_pipe_17 dX3_pipe_19 dX3_pipe_22 hxt ⟨Nat.le_of_ble_eq_true rfl, Nat.le_of_ble_eq_true rfl, Nat.le_of_ble_eq_true rfl, Nat.le_of_ble_eq_true rfl⟩ hlk (⟨rfl, by unfold pipF; rw [if_pos ibi, if_neg (fun q => q.1 cA)]⟩) (by omega) (by omega)
  · skip
    have cA := c_4
    refine g_iload_n X dX3_pipe_8 2 rfl rfl ?_
    refine g_iconst X (v := 5) dX3_pipe_9 (by decide) ?_
    refine g_icmp_lt X 23 dX3_pipe_10 (by decide) (fun c_5 => ?_) (fun c_5 => ?_)
    · skip
      have ibw : inb y 5 := ⟨cA, c_5⟩
      obtain ⟨k, hk, rfl⟩ := inb_N (T := 5) rfl (by omega) ibw
      have exk : ix (nI k) = k := nI_clamp (by omega)
      refine g_aload_n X dX3_pipe_23 0 rfl rfl ?_
      refine g_getr X 0 (by omega) 0 (by decide) ku_X3 kv_X3 kf_X3_10 rfl lC_o_pipes dX3_pipe_24 ?_
      refine g_iload_n X dX3_pipe_27 1 rfl rfl ?_
      refine g_iload_n X dX3_pipe_28 2 rfl rfl ?_
      refine g_mcallVi X 1 (c_X0_tell l D cy ad ρ 1 i k (Or.inl rfl) (by omega) (by omega)) kl_X3_153 ⟨rfl, rfl, Nat.le_of_ble_eq_true rfl, Nat.le_of_ble_eq_true rfl⟩ (by omega) (lC_P (Or.inl rfl)) kv_X0 rfl rfl (Nat.le_of_ble_eq_true rfl) dX3_pipe_29 ⟨Nat.le_of_ble_eq_true rfl, Nat.le_of_ble_eq_true rfl⟩ (fun r_7 ρ_6 h_8 => ?_)
      obtain ⟨er_7, e9⟩ := h_8
      rw [e9, er_7]
      clear e9
      exact g_xiret X hr hlk (by omega) (by omega) dX3_pipe_32 (by unfold pipF; rw [if_pos ibi, if_pos ibw, exi, exk])
    · skip
      have cB := c_5
      exact g_throw X hE hl0 (names := ["java/lang/RuntimeException", "java/lang/Exception"]) (by decide +kernel) (by decide +kernel) kk_X3_67 ki_IOB kst_151 kh_IOB_71 kh_IOB_71g dX3_pipe_13 dX3_pipe_16 dX3_pipe_17 dX3_pipe_19 dX3_pipe_22 hxt ⟨Nat.le_of_ble_eq_true rfl, Nat.le_of_ble_eq_true rfl, Nat.le_of_ble_eq_true rfl, Nat.le_of_ble_eq_true rfl⟩ hlk (⟨rfl, by unfold pipF; rw [if_pos ibi, if_neg (fun q => cB q.2)]⟩) (by omega) (by omega)

set_option maxHeartbeats 1000000 in
set_option maxRecDepth 100000 in
theorem c_X3_sound (l : Launch) (hl0 : l.stackTraces = false) (D : va_G) (cy : Nat → ClassId) (ad : Nat → Nat) (ρ : Nat → Nat → Int32) (N T S d : Nat) (hI : Inv ρ N T S d) (x : Int32) : gXI l yX3_sound cX3_sound 2 (some .int) { frames := 7, cells := 3, slots := 18, locals := 111 } D cy 48 ad (cC ad cy) [.ref (ad 0), .int x] ρ (fun r ρ1 => souF ρ x = (0, r, ρ1)) (xq1 "java/lang/IndexOutOfBoundsException" (souF ρ x).1) 3 18 := by
  refine gXI_of (ls := [(0, .ref (ad 0)), (1, .int x)]) RX3 rfl (by decide +kernel) (Nat.le_of_ble_eq_true rfl) rfl ?_
  intro p e s m args below meth c A X hE hxt hr hlk
  obtain ⟨hT, hT6, hS, hS8, hd, hdN, hN, hTu, hSt, hPi, hZ, hHd⟩ := id hI
  have hwd : wdF ρ = nI (d % 7) := by unfold wdF; rw [hd, nI_clamp (by omega)]
  refine g_aload_n X dX3_sound_0 0 rfl rfl ?_
  refine g_iload_n X dX3_sound_1 1 rfl rfl ?_
  refine g_xcallVv X hE 0 (c_X3_checkTune l hl0 D cy ad ρ _) kl_X3_51 ⟨rfl, rfl, Nat.le_of_ble_eq_true rfl, Nat.le_of_ble_eq_true rfl⟩ (by omega) lC_O kv_X3 rfl rfl (Nat.le_of_ble_eq_true rfl) dX3_sound_2 ⟨Nat.le_of_ble_eq_true rfl, Nat.le_of_ble_eq_true rfl⟩ (g_out hxt hlk (fun E h => ⟨h.1, by unfold souF; rw [if_neg h.2]⟩) (by omega) (by omega)) (fun ρ_1 h_3 => ?_)
  obtain ⟨e9, ib9⟩ := h_3
  rw [e9]
  obtain ⟨t, ht, rfl⟩ := inb_N hT (by omega) ib9
  have ibt := ib9
  have ext : ix (nI t) = t := nI_clamp (by omega)
  refine g_aload_n X dX3_sound_5 0 rfl rfl ?_
  refine g_getr X 0 (by omega) 2 (by decide) ku_X3 kv_X3 kf_X3_21 rfl lC_o_tunes dX3_sound_6 ?_
  refine g_iload_n X dX3_sound_9 1 rfl rfl ?_
  refine g_aaldN X 11 t 2 (by omega) lC_tunes rfl (by omega) (by decide) dX3_sound_10 ?_
  refine g_aload_n X dX3_sound_11 0 rfl rfl ?_
  refine g_getr X 0 (by omega) 0 (by decide) ku_X3 kv_X3 kf_X3_10 rfl lC_o_pipes dX3_sound_12 ?_
  refine g_mcallVi X (14 + 3 * t) (c_X2_soundOf l D cy ad ρ t 1 (by omega) (Or.inl rfl)) kl_X3_156 ⟨rfl, rfl, Nat.le_of_ble_eq_true rfl, Nat.le_of_ble_eq_true rfl⟩ (by omega) (lC_T (by omega)) kv_X2 rfl rfl (Nat.le_of_ble_eq_true rfl) dX3_sound_15 ⟨Nat.le_of_ble_eq_true rfl, Nat.le_of_ble_eq_true rfl⟩ (fun r_5 ρ_4 h_6 => ?_)
  obtain ⟨er_5, e9⟩ := h_6
  rw [e9, er_5]
  clear e9
  exact g_xiret X hr hlk (by omega) (by omega) dX3_sound_18 (by unfold souF; rw [if_pos ibt, ext])

set_option maxHeartbeats 1000000 in
set_option maxRecDepth 100000 in
theorem c_X3_told (l : Launch) (hl0 : l.stackTraces = false) (D : va_G) (cy : Nat → ClassId) (ad : Nat → Nat) (ρ : Nat → Nat → Int32) (N T S d : Nat) (hI : Inv ρ N T S d) (x y : Int32) : gXI l yX3_told cX3_told 3 (some .int) { frames := 7, cells := 3, slots := 18, locals := 111 } D cy 48 ad (cC ad cy) [.ref (ad 0), .int x, .int y] ρ (fun r ρ1 => tolF ρ x y = (0, r, ρ1)) (xq1 "java/lang/IndexOutOfBoundsException" (tolF ρ x y).1) 3 18 := by
  refine gXI_of (ls := [(0, .ref (ad 0)), (1, .int x), (2, .int y)]) RX3 rfl (by decide +kernel) (Nat.le_of_ble_eq_true rfl) rfl ?_
  intro p e s m args below meth c A X hE hxt hr hlk
  obtain ⟨hT, hT6, hS, hS8, hd, hdN, hN, hTu, hSt, hPi, hZ, hHd⟩ := id hI
  have hwd : wdF ρ = nI (d % 7) := by unfold wdF; rw [hd, nI_clamp (by omega)]
  refine g_aload_n X dX3_told_0 0 rfl rfl ?_
  refine g_iload_n X dX3_told_1 1 rfl rfl ?_
  refine g_xcallVv X hE 0 (c_X3_checkStreet l hl0 D cy ad ρ _) kl_X3_94 ⟨rfl, rfl, Nat.le_of_ble_eq_true rfl, Nat.le_of_ble_eq_true rfl⟩ (by omega) lC_O kv_X3 rfl rfl (Nat.le_of_ble_eq_true rfl) dX3_told_2 ⟨Nat.le_of_ble_eq_true rfl, Nat.le_of_ble_eq_true rfl⟩ (g_out hxt hlk (fun E h => ⟨h.1, by unfold tolF; rw [if_neg h.2]⟩) (by omega) (by omega)) (fun ρ_1 h_3 => ?_)
  obtain ⟨e9, ib9⟩ := h_3
  rw [e9]
  obtain ⟨z, hz, rfl⟩ := inb_N hS (by omega) ib9
  have ibz := ib9
  have exz : ix (nI z) = z := nI_clamp (by omega)
  refine g_iload_n X dX3_told_5 2 rfl rfl ?_
  refine g_if_lt X 14 dX3_told_6 (by decide) (fun c_4 => ?_) (fun c_4 => ?_)
  · skip
    have cA := c_4
    exact g_throw X hE hl0 (names := ["java/lang/RuntimeException", "java/lang/Exception"]) (by decide +kernel) (by decide +kernel) kk_X3_67 ki_IOB kst_151 kh_IOB_71 kh_IOB_71g dX3_told_14 dX3_told_17 dX3_told_18 dX3_told_20 dX3_told_23 hxt ⟨Nat.le_of_ble_eq_true rfl, Nat.le_of_ble_eq_true rfl, Nat.le_of_ble_eq_true rfl, Nat.le_of_ble_eq_true rfl⟩ hlk (⟨rfl, by unfold tolF; rw [if_pos ibz, if_neg (fun q => q.1 cA)]⟩) (by omega) (by omega)
  · skip
    have cA := c_4
    refine g_iload_n X dX3_told_9 2 rfl rfl ?_
    refine g_iconst X (v := 5) dX3_told_10 (by decide) ?_
    refine g_icmp_lt X 24 dX3_told_11 (by decide) (fun c_5 => ?_) (fun c_5 => ?_)
    · skip
      have ibw : inb y 5 := ⟨cA, c_5⟩
      obtain ⟨k, hk, rfl⟩ := inb_N (T := 5) rfl (by omega) ibw
      have exk : ix (nI k) = k := nI_clamp (by omega)
      refine g_aload_n X dX3_told_24 0 rfl rfl ?_
      refine g_getr X 0 (by omega) 3 (by decide) ku_X3 kv_X3 kf_X3_28 rfl lC_o_streets dX3_told_25 ?_
      refine g_iload_n X dX3_told_28 1 rfl rfl ?_
      refine g_aaldN X 12 z 3 (by omega) lC_streets rfl (by omega) (by decide) dX3_told_29 ?_
      refine g_iload_n X dX3_told_30 2 rfl rfl ?_
      refine g_aload_n X dX3_told_31 0 rfl rfl ?_
      refine g_geti X 0 (by omega) 7 (by decide) ku_X3 kv_X3 kf_X3_103 rfl lC_o_day dX3_told_32 ?_
      rw [show ρ 0 7 = nI d from hd]
      refine g_mcallSi X (c_X3_weekdayOf l D cy ad ρ d (by omega)) kl_X3_106 ⟨rfl, rfl, Nat.le_of_ble_eq_true rfl, Nat.le_of_ble_eq_true rfl⟩ rfl rfl (Nat.le_of_ble_eq_true rfl) dX3_told_35 ⟨Nat.le_of_ble_eq_true rfl, Nat.le_of_ble_eq_true rfl⟩ (fun r_7 ρ_6 h_8 => ?_)
      obtain ⟨er_7, e9⟩ := h_8
      rw [e9, er_7]
      clear e9
      refine g_mcallVi X (32 + 2 * z) (c_X1_tell l D cy ad ρ z k _ (by omega) (by omega)) kl_X3_160 ⟨rfl, rfl, Nat.le_of_ble_eq_true rfl, Nat.le_of_ble_eq_true rfl⟩ (by omega) (lC_S (by omega)) kv_X1 rfl rfl (Nat.le_of_ble_eq_true rfl) dX3_told_38 ⟨Nat.le_of_ble_eq_true rfl, Nat.le_of_ble_eq_true rfl⟩ (fun r_10 ρ_9 h_11 => ?_)
      obtain ⟨er_10, e9⟩ := h_11
      rw [e9, er_10]
      clear e9
      exact g_xiret X hr hlk (by omega) (by omega) dX3_told_41 (by unfold tolF; rw [if_pos ibz, if_pos ibw, exz, exk, hwd])
    · skip
      have cB := c_5
      exact g_throw X hE hl0 (names := ["java/lang/RuntimeException", "java/lang/Exception"]) (by decide +kernel) (by decide +kernel) kk_X3_67 ki_IOB kst_151 kh_IOB_71 kh_IOB_71g dX3_told_14 dX3_told_17 dX3_told_18 dX3_told_20 dX3_told_23 hxt ⟨Nat.le_of_ble_eq_true rfl, Nat.le_of_ble_eq_true rfl, Nat.le_of_ble_eq_true rfl, Nat.le_of_ble_eq_true rfl⟩ hlk (⟨rfl, by unfold tolF; rw [if_pos ibz, if_neg (fun q => cB q.2)]⟩) (by omega) (by omega)

set_option maxHeartbeats 1000000 in
set_option maxRecDepth 100000 in
theorem c_X3_count (l : Launch) (hl0 : l.stackTraces = false) (D : va_G) (cy : Nat → ClassId) (ad : Nat → Nat) (ρ : Nat → Nat → Int32) (N T S d : Nat) (hI : Inv ρ N T S d) (x : Int32) : gXI l yX3_count cX3_count 2 (some .int) { frames := 6, cells := 3, slots := 18, locals := 90 } D cy 48 ad (cC ad cy) [.ref (ad 0), .int x] ρ (fun r ρ1 => couF ρ x = (0, r, ρ1)) (xq1 "java/lang/IndexOutOfBoundsException" (couF ρ x).1) 3 18 := by
  refine gXI_of (ls := [(0, .ref (ad 0)), (1, .int x)]) RX3 rfl (by decide +kernel) (Nat.le_of_ble_eq_true rfl) rfl ?_
  intro p e s m args below meth c A X hE hxt hr hlk
  obtain ⟨hT, hT6, hS, hS8, hd, hdN, hN, hTu, hSt, hPi, hZ, hHd⟩ := id hI
  have hwd : wdF ρ = nI (d % 7) := by unfold wdF; rw [hd, nI_clamp (by omega)]
  refine g_iload_n X dX3_count_0 1 rfl rfl ?_
  refine g_if_lt X 10 dX3_count_1 (by decide) (fun c_1 => ?_) (fun c_1 => ?_)
  · skip
    have cA := c_1
    exact g_throw X hE hl0 (names := ["java/lang/RuntimeException", "java/lang/Exception"]) (by decide +kernel) (by decide +kernel) kk_X3_67 ki_IOB kst_161 kh_IOB_71 kh_IOB_71g dX3_count_10 dX3_count_13 dX3_count_14 dX3_count_16 dX3_count_19 hxt ⟨Nat.le_of_ble_eq_true rfl, Nat.le_of_ble_eq_true rfl, Nat.le_of_ble_eq_true rfl, Nat.le_of_ble_eq_true rfl⟩ hlk (⟨rfl, by unfold couF; rw [if_neg (fun q => q.1 cA)]⟩) (by omega) (by omega)
  · skip
    have cA := c_1
    refine g_iload_n X dX3_count_4 1 rfl rfl ?_
    refine g_bipush X (v := 9) dX3_count_5 (by decide) ?_
    refine g_icmp_lt X 20 dX3_count_7 (by decide) (fun c_2 => ?_) (fun c_2 => ?_)
    · skip
      have ibw : inb x 9 := ⟨cA, c_2⟩
      obtain ⟨k, hk, rfl⟩ := inb_N (T := 9) rfl (by omega) ibw
      have exk : ix (nI k) = k := nI_clamp (by omega)
      refine g_aload_n X dX3_count_20 0 rfl rfl ?_
      refine g_iload_n X dX3_count_21 1 rfl rfl ?_
      refine g_mcallVi X 0 (c_X3_countNow l D cy ad ρ k d (by omega) hd (by omega)) kl_X3_163 ⟨rfl, rfl, Nat.le_of_ble_eq_true rfl, Nat.le_of_ble_eq_true rfl⟩ (by omega) lC_O kv_X3 rfl rfl (Nat.le_of_ble_eq_true rfl) dX3_count_22 ⟨Nat.le_of_ble_eq_true rfl, Nat.le_of_ble_eq_true rfl⟩ (fun r_4 ρ_3 h_5 => ?_)
      obtain ⟨er_4, e9⟩ := h_5
      rw [e9, er_4]
      clear e9
      exact g_xiret X hr hlk (by omega) (by omega) dX3_count_25 (by unfold couF; rw [if_pos ibw, exk])
    · skip
      have cB := c_2
      exact g_throw X hE hl0 (names := ["java/lang/RuntimeException", "java/lang/Exception"]) (by decide +kernel) (by decide +kernel) kk_X3_67 ki_IOB kst_161 kh_IOB_71 kh_IOB_71g dX3_count_10 dX3_count_13 dX3_count_14 dX3_count_16 dX3_count_19 hxt ⟨Nat.le_of_ble_eq_true rfl, Nat.le_of_ble_eq_true rfl, Nat.le_of_ble_eq_true rfl, Nat.le_of_ble_eq_true rfl⟩ hlk (⟨rfl, by unfold couF; rw [if_neg (fun q => cB q.2)]⟩) (by omega) (by omega)

set_option maxHeartbeats 1000000 in
set_option maxRecDepth 100000 in
theorem c_X3_rest (l : Launch) (hl0 : l.stackTraces = false) (D : va_G) (cy : Nat → ClassId) (ad : Nat → Nat) (ρ : Nat → Nat → Int32) (N T S d : Nat) (hI : Inv ρ N T S d) (x : Int32) : gXI l yX3_rest cX3_rest 4 (some .int) { frames := 7, cells := 3, slots := 18, locals := 110 } D cy 48 ad (cC ad cy) [.ref (ad 0), .int x] ρ (fun r ρ1 => resF ρ x = (0, r, ρ1)) (xq1 "java/lang/IllegalArgumentException" (resF ρ x).1) 3 18 := by
  refine gXI_of (ls := [(0, .ref (ad 0)), (1, .int x)]) RX3 rfl (by decide +kernel) (Nat.le_of_ble_eq_true rfl) rfl ?_
  intro p e s m args below meth c A X hE hxt hr hlk
  obtain ⟨hT, hT6, hS, hS8, hd, hdN, hN, hTu, hSt, hPi, hZ, hHd⟩ := id hI
  have hwd : wdF ρ = nI (d % 7) := by unfold wdF; rw [hd, nI_clamp (by omega)]
  refine g_iload_n X dX3_rest_0 1 rfl rfl ?_
  refine g_xcallSv X hE (c_X3_checkNights l hl0 D cy ad ρ _) kl_X3_166 ⟨rfl, rfl, Nat.le_of_ble_eq_true rfl, Nat.le_of_ble_eq_true rfl⟩ rfl rfl (Nat.le_of_ble_eq_true rfl) dX3_rest_1 ⟨Nat.le_of_ble_eq_true rfl, Nat.le_of_ble_eq_true rfl⟩ (g_out hxt hlk (fun E h => ⟨h.1, by unfold resF; rw [if_neg h.2]⟩) (by omega) (by omega)) (fun ρ_1 h_3 => ?_)
  obtain ⟨e9, ib9⟩ := h_3
  rw [e9]
  obtain ⟨nn, hnn, rfl⟩ := nig_N ib9
  have ibnn := ib9
  have exnn : ix (nI nn) = nn := nI_clamp (by omega)
  refine g_aload_n X dX3_rest_4 0 rfl rfl ?_
  refine g_aload_n X dX3_rest_5 0 rfl rfl ?_
  refine g_getr X 0 (by omega) 0 (by decide) ku_X3 kv_X3 kf_X3_10 rfl lC_o_pipes dX3_rest_6 ?_
  refine g_iload_n X dX3_rest_9 1 rfl rfl ?_
  refine g_mcallVi X 0 (c_X3_passNights l D cy ad ρ 1 nn d (Or.inl rfl) hd (by omega)) kl_X3_169 ⟨rfl, rfl, Nat.le_of_ble_eq_true rfl, Nat.le_of_ble_eq_true rfl⟩ (by omega) lC_O kv_X3 rfl rfl (Nat.le_of_ble_eq_true rfl) dX3_rest_10 ⟨Nat.le_of_ble_eq_true rfl, Nat.le_of_ble_eq_true rfl⟩ (fun r_5 ρ_4 h_6 => ?_)
  obtain ⟨er9, eρ9⟩ := h_6
  rw [eρ9, er9]
  refine g_istore_n X [(2, .int _), (0, .ref _), (1, .int _)] dX3_rest_13 rfl (by decide) rfl ?_
  refine g_iconst X (v := 0) dX3_rest_14 (by decide) ?_
  refine g_istore_n X [(3, .int _), (2, .int _), (0, .ref _), (1, .int _)] dX3_rest_15 rfl (by decide) rfl ?_
  refine g_ls (ls' := [(0, .ref _), (1, .int _), (2, .int _), (3, .int _)]) [2, 3, 1, 0] rfl ?_
  refine g_loop (fun _ => True) (fun i => fgA (nsR ρ 1 d nn) i) (fun i => [(0, .ref (ad 0)), (1, .int (nI nn)), (2, .int (csF ρ 1 d nn)), (3, .int (nI i))]) (fun _ => ((0 + 1) + 0)) (fun _ => ((0 + 6) + 0)) S 0 trivial (by omega) rfl fgA_0.symm rfl rfl (fun i h0i hi hIi ihi => ?_)
  obtain ⟨ρa, eρa⟩ : ∃ ρz, ρz = fgA (nsR ρ 1 d nn) i := ⟨_, rfl⟩
  rw [← eρa]
  have hSa : ρa 0 6 = nI S := by rw [eρa]; unfold fgA; rw [if_neg (by omega), nsR_out (k := 0) (by omega)]; exact hS
  have hda : ρa 0 7 = nI d := by rw [eρa]; unfold fgA; rw [if_neg (by omega), nsR_out (k := 0) (by omega)]; exact hd
  refine g_iload_n X dX3_rest_16 3 rfl rfl ?_
  refine g_aload_n X dX3_rest_17 0 rfl rfl ?_
  refine g_geti X 0 (by omega) 6 (by decide) ku_X3 kv_X3 kf_X3_83 rfl lC_o_streetCount dX3_rest_18 ?_
  rw [hSa]
  refine g_icmp_geN X i S 39 (by omega) (by omega) dX3_rest_21 (by decide) (fun c_7 => ?_) (fun c_7 => ?_)
  · skip
    refine g_aload_n X dX3_rest_39 0 rfl rfl ?_
    refine g_dup X dX3_rest_40 rfl ?_
    refine g_geti X 0 (by omega) 7 (by decide) ku_X3 kv_X3 kf_X3_103 rfl lC_o_day dX3_rest_41 ?_
    rw [hda]
    refine g_iload_n X dX3_rest_44 1 rfl rfl ?_
    refine g_iadd X dX3_rest_45 ?_
    rw [nI_add]
    refine g_puti X 0 (by omega) 7 (by decide) ku_X3 kv_X3 kf_X3_103 rfl tyX3 tyX3_ok nmX3 rfl (by decide +kernel) lC_o_day dX3_rest_46 (fun ρ_8 eρ_8 => ?_)
    refine g_iload_n X dX3_rest_49 2 rfl rfl ?_
    exact g_xiret X hr hlk (by omega) (by omega) dX3_rest_50 (by subst_vars; unfold resF; rw [if_pos ibnn, exnn]; unfold resR; rw [hd, hS, show ix (nI d) = d from nI_clamp (by omega), show ix (nI S) = S from nI_clamp (by omega), show i = S by omega])
  · skip
    refine g_aload_n X dX3_rest_24 0 rfl rfl ?_
    refine g_getr X 0 (by omega) 3 (by decide) ku_X3 kv_X3 kf_X3_28 rfl lC_o_streets dX3_rest_25 ?_
    refine g_iload_n X dX3_rest_28 3 rfl rfl ?_
    refine g_aaldN X 12 i 3 (by omega) lC_streets rfl (by omega) (by decide) dX3_rest_29 ?_
    refine g_mcallVv X (32 + 2 * i) (c_X1_forgetDay l D cy ad ρa i (by omega)) kl_X3_173 ⟨rfl, rfl, Nat.le_of_ble_eq_true rfl, Nat.le_of_ble_eq_true rfl⟩ (by omega) (lC_S (by omega)) kv_X1 rfl rfl (Nat.le_of_ble_eq_true rfl) dX3_rest_30 ⟨Nat.le_of_ble_eq_true rfl, Nat.le_of_ble_eq_true rfl⟩ (fun ρ_9 h_11 => ?_)
    refine g_iincN X i 3 [(3, .int _), (0, .ref _), (1, .int _), (2, .int _)] 3 dX3_rest_33 rfl (by decide) rfl ?_
    refine g_goto X 16 dX3_rest_36 (by decide) ?_
    refine g_ls (ls' := [(0, .ref _), (1, .int _), (2, .int _), (3, .int _)]) [1, 2, 3, 0] rfl ?_
    exact g_eqv (ihi (by omega) trivial) (rfl) (by subst_vars; funext k j; simp only [fgR, fgA]; grind) rfl rfl

set_option maxHeartbeats 1000000 in
set_option maxRecDepth 100000 in
theorem c_X3_pays (l : Launch) (hl0 : l.stackTraces = false) (D : va_G) (cy : Nat → ClassId) (ad : Nat → Nat) (ρ : Nat → Nat → Int32) (N T S d : Nat) (hI : Inv ρ N T S d) (x y : Int32) : gXI l yX3_pays cX3_pays 3 (some .int) { frames := 7, cells := 3, slots := 18, locals := 111 } D cy 48 ad (cC ad cy) [.ref (ad 0), .int x, .int y] ρ (fun r ρ1 => payF ρ x y = (0, r, ρ1)) (xq1 "java/lang/IndexOutOfBoundsException" (payF ρ x y).1) 3 18 := by
  refine gXI_of (ls := [(0, .ref (ad 0)), (1, .int x), (2, .int y)]) RX3 rfl (by decide +kernel) (Nat.le_of_ble_eq_true rfl) rfl ?_
  intro p e s m args below meth c A X hE hxt hr hlk
  obtain ⟨hT, hT6, hS, hS8, hd, hdN, hN, hTu, hSt, hPi, hZ, hHd⟩ := id hI
  have hwd : wdF ρ = nI (d % 7) := by unfold wdF; rw [hd, nI_clamp (by omega)]
  refine g_aload_n X dX3_pays_0 0 rfl rfl ?_
  refine g_iload_n X dX3_pays_1 1 rfl rfl ?_
  refine g_xcallVv X hE 0 (c_X3_checkStreet l hl0 D cy ad ρ _) kl_X3_94 ⟨rfl, rfl, Nat.le_of_ble_eq_true rfl, Nat.le_of_ble_eq_true rfl⟩ (by omega) lC_O kv_X3 rfl rfl (Nat.le_of_ble_eq_true rfl) dX3_pays_2 ⟨Nat.le_of_ble_eq_true rfl, Nat.le_of_ble_eq_true rfl⟩ (g_out hxt hlk (fun E h => ⟨h.1, by unfold payF; rw [if_neg h.2]⟩) (by omega) (by omega)) (fun ρ_1 h_3 => ?_)
  obtain ⟨e9, ib9⟩ := h_3
  rw [e9]
  obtain ⟨z, hz, rfl⟩ := inb_N hS (by omega) ib9
  have ibz := ib9
  have exz : ix (nI z) = z := nI_clamp (by omega)
  refine g_aload_n X dX3_pays_5 0 rfl rfl ?_
  refine g_iload_n X dX3_pays_6 2 rfl rfl ?_
  refine g_xcallVv X hE 0 (c_X3_checkTune l hl0 D cy ad ρ _) kl_X3_51 ⟨rfl, rfl, Nat.le_of_ble_eq_true rfl, Nat.le_of_ble_eq_true rfl⟩ (by omega) lC_O kv_X3 rfl rfl (Nat.le_of_ble_eq_true rfl) dX3_pays_7 ⟨Nat.le_of_ble_eq_true rfl, Nat.le_of_ble_eq_true rfl⟩ (g_out hxt hlk (fun E h => ⟨h.1, by unfold payF; rw [if_pos ibz, if_neg h.2]⟩) (by omega) (by omega)) (fun ρ_4 h_6 => ?_)
  obtain ⟨e9, ib9⟩ := h_6
  rw [e9]
  obtain ⟨t, ht, rfl⟩ := inb_N hT (by omega) ib9
  have ibt := ib9
  have ext : ix (nI t) = t := nI_clamp (by omega)
  refine g_aload_n X dX3_pays_10 0 rfl rfl ?_
  refine g_iload_n X dX3_pays_11 1 rfl rfl ?_
  refine g_iload_n X dX3_pays_12 2 rfl rfl ?_
  refine g_mcallVi X 0 (c_X3_payNow l D cy ad ρ z t (by omega) (by omega) (Inv_pay hI (by omega) (by omega))) kl_X3_117 ⟨rfl, rfl, Nat.le_of_ble_eq_true rfl, Nat.le_of_ble_eq_true rfl⟩ (by omega) lC_O kv_X3 rfl rfl (Nat.le_of_ble_eq_true rfl) dX3_pays_13 ⟨Nat.le_of_ble_eq_true rfl, Nat.le_of_ble_eq_true rfl⟩ (fun r_8 ρ_7 h_9 => ?_)
  obtain ⟨er_8, e9⟩ := h_9
  rw [e9, er_8]
  clear e9
  exact g_xiret X hr hlk (by omega) (by omega) dX3_pays_16 (by unfold payF; rw [if_pos ibz, if_pos ibt, exz, ext])

set_option maxHeartbeats 1000000 in
set_option maxRecDepth 100000 in
theorem c_X3_best (l : Launch) (hl0 : l.stackTraces = false) (D : va_G) (cy : Nat → ClassId) (ad : Nat → Nat) (ρ : Nat → Nat → Int32) (N T S d : Nat) (hI : Inv ρ N T S d) (x : Int32) : gXI l yX3_best cX3_best 6 (some .int) { frames := 7, cells := 3, slots := 18, locals := 111 } D cy 48 ad (cC ad cy) [.ref (ad 0), .int x] ρ (fun r ρ1 => besF ρ x = (0, r, ρ1)) (xq1 "java/lang/IndexOutOfBoundsException" (besF ρ x).1) 3 18 := by
  refine gXI_of (ls := [(0, .ref (ad 0)), (1, .int x)]) RX3 rfl (by decide +kernel) (Nat.le_of_ble_eq_true rfl) rfl ?_
  intro p e s m args below meth c A X hE hxt hr hlk
  obtain ⟨hT, hT6, hS, hS8, hd, hdN, hN, hTu, hSt, hPi, hZ, hHd⟩ := id hI
  have hwd : wdF ρ = nI (d % 7) := by unfold wdF; rw [hd, nI_clamp (by omega)]
  refine g_aload_n X dX3_best_0 0 rfl rfl ?_
  refine g_iload_n X dX3_best_1 1 rfl rfl ?_
  refine g_xcallVv X hE 0 (c_X3_checkStreet l hl0 D cy ad ρ _) kl_X3_94 ⟨rfl, rfl, Nat.le_of_ble_eq_true rfl, Nat.le_of_ble_eq_true rfl⟩ (by omega) lC_O kv_X3 rfl rfl (Nat.le_of_ble_eq_true rfl) dX3_best_2 ⟨Nat.le_of_ble_eq_true rfl, Nat.le_of_ble_eq_true rfl⟩ (g_out hxt hlk (fun E h => ⟨h.1, by unfold besF; rw [if_neg h.2]⟩) (by omega) (by omega)) (fun ρ_1 h_3 => ?_)
  obtain ⟨e9, ib9⟩ := h_3
  rw [e9]
  obtain ⟨z, hz, rfl⟩ := inb_N hS (by omega) ib9
  have ibz := ib9
  have exz : ix (nI z) = z := nI_clamp (by omega)
  refine g_iconst X (v := -1) dX3_best_5 (by decide) ?_
  refine g_istore_n X [(2, .int _), (0, .ref _), (1, .int _)] dX3_best_6 rfl (by decide) rfl ?_
  refine g_iconst X (v := 0) dX3_best_7 (by decide) ?_
  refine g_istore_n X [(3, .int _), (2, .int _), (0, .ref _), (1, .int _)] dX3_best_8 rfl (by decide) rfl ?_
  refine g_iconst X (v := 0) dX3_best_9 (by decide) ?_
  refine g_istore X [(4, .int _), (3, .int _), (2, .int _), (0, .ref _), (1, .int _)] dX3_best_10 (by decide) rfl ?_
  refine g_ls (ls' := [(0, .ref _), (1, .int _), (2, .int _), (3, .int _), (4, .int _)]) [3, 4, 2, 1, 0] rfl ?_
  refine g_loop (fun _ => True) (fun _ => ρ) (fun i => [(0, .ref (ad 0)), (1, .int (nI z)), (2, .int (bsP ρ z i).2), (3, .int (bsP ρ z i).1), (4, .int (nI i))]) (fun _ => (0 + 1)) (fun _ => (0 + 6)) T 0 trivial (by omega) rfl rfl rfl rfl (fun i h0i hi hIi ihi => ?_)
  refine g_iload X dX3_best_12 4 rfl ?_
  refine g_aload_n X dX3_best_14 0 rfl rfl ?_
  refine g_geti X 0 (by omega) 5 (by decide) ku_X3 kv_X3 kf_X3_41 rfl lC_o_tuneCount dX3_best_15 ?_
  rw [show ρ 0 5 = nI T from hT]
  refine g_icmp_geN X i T 48 (by omega) (by omega) dX3_best_18 (by decide) (fun c_4 => ?_) (fun c_4 => ?_)
  · skip
    refine g_iload_n X dX3_best_48 2 rfl rfl ?_
    exact g_xiret X hr hlk (by omega) (by omega) dX3_best_49 (by unfold besF; rw [if_pos ibz, exz, hT, show ix (nI T) = i by rw [show i = T by omega]; exact nI_clamp (by omega)])
  · skip
    refine g_aload_n X dX3_best_21 0 rfl rfl ?_
    refine g_iload_n X dX3_best_22 1 rfl rfl ?_
    refine g_iload X dX3_best_23 4 rfl ?_
    refine g_mcallVi X 0 (c_X3_payNow l D cy ad ρ z i (by omega) (by omega) (Inv_pay hI (by omega) (by omega))) kl_X3_117 ⟨rfl, rfl, Nat.le_of_ble_eq_true rfl, Nat.le_of_ble_eq_true rfl⟩ (by omega) lC_O kv_X3 rfl rfl (Nat.le_of_ble_eq_true rfl) dX3_best_25 ⟨Nat.le_of_ble_eq_true rfl, Nat.le_of_ble_eq_true rfl⟩ (fun r_6 ρ_5 h_7 => ?_)
    obtain ⟨er_6, e9⟩ := h_7
    rw [e9, er_6]
    clear e9
    refine g_istore X [(5, .int _), (0, .ref _), (1, .int _), (2, .int _), (3, .int _), (4, .int _)] dX3_best_28 (by decide) rfl ?_
    refine g_iload X dX3_best_30 0 rfl ?_
    refine g_iload_n X dX3_best_32 4 rfl rfl ?_
    refine g_icmp_le X 42 dX3_best_33 (by decide) (fun c_8 => ?_) (fun c_8 => ?_)
    · skip
      have cQ := c_8
      refine g_iincN X i 4 [(4, .int _), (5, .int _), (0, .ref _), (1, .int _), (2, .int _), (3, .int _)] 5 dX3_best_42 rfl (by decide) rfl ?_
      refine g_goto X 12 dX3_best_45 (by decide) ?_
      refine g_ls (ls' := [(0, .ref _), (1, .int _), (2, .int _), (3, .int _), (4, .int _)]) [2, 3, 4, 5, 0] rfl ?_
      exact g_eqv (ihi (by omega) trivial) (by simp only [bsP]; first | rw [if_pos cQ] | rw [if_neg cQ]) (rfl) rfl rfl
    · skip
      have cQ := c_8
      refine g_iload X dX3_best_36 0 rfl ?_
      refine g_istore_n X [(3, .int _), (5, .int _), (0, .ref _), (1, .int _), (2, .int _), (4, .int _)] dX3_best_38 rfl (by decide) rfl ?_
      refine g_iload X dX3_best_39 5 rfl ?_
      refine g_istore_n X [(2, .int _), (3, .int _), (5, .int _), (0, .ref _), (1, .int _), (4, .int _)] dX3_best_41 rfl (by decide) rfl ?_
      refine g_iincN X i 4 [(4, .int _), (2, .int _), (3, .int _), (5, .int _), (0, .ref _), (1, .int _)] 5 dX3_best_42 rfl (by decide) rfl ?_
      refine g_goto X 12 dX3_best_45 (by decide) ?_
      refine g_ls (ls' := [(0, .ref _), (1, .int _), (2, .int _), (3, .int _), (4, .int _)]) [4, 5, 1, 2, 0] rfl ?_
      exact g_eqv (ihi (by omega) trivial) (by simp only [bsP]; first | rw [if_pos cQ] | rw [if_neg cQ]) (rfl) rfl rfl

set_option maxHeartbeats 1000000 in
set_option maxRecDepth 100000 in
theorem c_X3_worst (l : Launch) (hl0 : l.stackTraces = false) (D : va_G) (cy : Nat → ClassId) (ad : Nat → Nat) (ρ : Nat → Nat → Int32) (N T S d : Nat) (hI : Inv ρ N T S d) (x : Int32) : gXI l yX3_worst cX3_worst 6 (some .int) { frames := 7, cells := 3, slots := 18, locals := 111 } D cy 48 ad (cC ad cy) [.ref (ad 0), .int x] ρ (fun r ρ1 => worF ρ x = (0, r, ρ1)) (xq1 "java/lang/IndexOutOfBoundsException" (worF ρ x).1) 3 18 := by
  refine gXI_of (ls := [(0, .ref (ad 0)), (1, .int x)]) RX3 rfl (by decide +kernel) (Nat.le_of_ble_eq_true rfl) rfl ?_
  intro p e s m args below meth c A X hE hxt hr hlk
  obtain ⟨hT, hT6, hS, hS8, hd, hdN, hN, hTu, hSt, hPi, hZ, hHd⟩ := id hI
  have hwd : wdF ρ = nI (d % 7) := by unfold wdF; rw [hd, nI_clamp (by omega)]
  refine g_aload_n X dX3_worst_0 0 rfl rfl ?_
  refine g_iload_n X dX3_worst_1 1 rfl rfl ?_
  refine g_xcallVv X hE 0 (c_X3_checkTune l hl0 D cy ad ρ _) kl_X3_51 ⟨rfl, rfl, Nat.le_of_ble_eq_true rfl, Nat.le_of_ble_eq_true rfl⟩ (by omega) lC_O kv_X3 rfl rfl (Nat.le_of_ble_eq_true rfl) dX3_worst_2 ⟨Nat.le_of_ble_eq_true rfl, Nat.le_of_ble_eq_true rfl⟩ (g_out hxt hlk (fun E h => ⟨h.1, by unfold worF; rw [if_neg h.2]⟩) (by omega) (by omega)) (fun ρ_1 h_3 => ?_)
  obtain ⟨e9, ib9⟩ := h_3
  rw [e9]
  obtain ⟨t, ht, rfl⟩ := inb_N hT (by omega) ib9
  have ibt := ib9
  have ext : ix (nI t) = t := nI_clamp (by omega)
  refine g_iconst X (v := -1) dX3_worst_5 (by decide) ?_
  refine g_istore_n X [(2, .int _), (0, .ref _), (1, .int _)] dX3_worst_6 rfl (by decide) rfl ?_
  refine g_aload_n X dX3_worst_7 1 rfl rfl ?_
  refine g_getr X 0 (by omega) 2 (by decide) ku_X3 kv_X3 kf_X3_21 rfl lC_o_tunes dX3_worst_8 ?_
  refine g_iload_n X dX3_worst_11 2 rfl rfl ?_
  refine g_aaldN X 11 t 2 (by omega) lC_tunes rfl (by omega) (by decide) dX3_worst_12 ?_
  refine g_aload_n X dX3_worst_13 1 rfl rfl ?_
  refine g_getr X 0 (by omega) 0 (by decide) ku_X3 kv_X3 kf_X3_10 rfl lC_o_pipes dX3_worst_14 ?_
  refine g_mcallVi X (14 + 3 * t) (c_X2_soundOf l D cy ad ρ t 1 (by omega) (Or.inl rfl)) kl_X3_156 ⟨rfl, rfl, Nat.le_of_ble_eq_true rfl, Nat.le_of_ble_eq_true rfl⟩ (by omega) (lC_T (by omega)) kv_X2 rfl rfl (Nat.le_of_ble_eq_true rfl) dX3_worst_17 ⟨Nat.le_of_ble_eq_true rfl, Nat.le_of_ble_eq_true rfl⟩ (fun r_5 ρ_4 h_6 => ?_)
  obtain ⟨er_5, e9⟩ := h_6
  rw [e9, er_5]
  clear e9
  refine g_istore_n X [(3, .int _), (2, .int _), (0, .ref _), (1, .int _)] dX3_worst_20 rfl (by decide) rfl ?_
  refine g_iconst X (v := 0) dX3_worst_21 (by decide) ?_
  refine g_istore X [(4, .int _), (3, .int _), (2, .int _), (0, .ref _), (1, .int _)] dX3_worst_22 (by decide) rfl ?_
  refine g_ls (ls' := [(0, .ref _), (1, .int _), (2, .int _), (3, .int _), (4, .int _)]) [3, 4, 2, 1, 0] rfl ?_
  refine g_loop (fun _ => True) (fun _ => ρ) (fun i => [(0, .ref (ad 0)), (1, .int (nI t)), (2, .int (wsP ρ t i).2), (3, .int (wsP ρ t i).1), (4, .int (nI i))]) (fun _ => ((0 + 1) + 0)) (fun _ => ((0 + 6) + 0)) 12 0 trivial (by omega) rfl rfl rfl rfl (fun i h0i hi hIi ihi => ?_)
  refine g_iload X dX3_worst_24 4 rfl ?_
  refine g_bipush X (v := 12) dX3_worst_26 (by decide) ?_
  refine g_icmp_geN X i 12 66 (by omega) (by omega) dX3_worst_28 (by decide) (fun c_7 => ?_) (fun c_7 => ?_)
  · skip
    refine g_iload_n X dX3_worst_66 2 rfl rfl ?_
    exact g_xiret X hr hlk (by omega) (by omega) dX3_worst_67 (by unfold worF; rw [if_pos ibt, ext, show i = 12 by omega])
  · skip
    refine g_aload_n X dX3_worst_31 0 rfl rfl ?_
    refine g_getr X 0 (by omega) 2 (by decide) ku_X3 kv_X3 kf_X3_21 rfl lC_o_tunes dX3_worst_32 ?_
    refine g_iload_n X dX3_worst_35 1 rfl rfl ?_
    refine g_aaldN X 11 t 2 (by omega) lC_tunes rfl (by omega) (by decide) dX3_worst_36 ?_
    refine g_aload_n X dX3_worst_37 0 rfl rfl ?_
    refine g_getr X 0 (by omega) 0 (by decide) ku_X3 kv_X3 kf_X3_10 rfl lC_o_pipes dX3_worst_38 ?_
    refine g_iload X dX3_worst_41 4 rfl ?_
    refine g_mcallVi X (14 + 3 * t) (c_X2_soundSparing l D cy ad ρ t 1 _ (by omega) (Or.inl rfl)) kl_X3_176 ⟨rfl, rfl, Nat.le_of_ble_eq_true rfl, Nat.le_of_ble_eq_true rfl⟩ (by omega) (lC_T (by omega)) kv_X2 rfl rfl (Nat.le_of_ble_eq_true rfl) dX3_worst_43 ⟨Nat.le_of_ble_eq_true rfl, Nat.le_of_ble_eq_true rfl⟩ (fun r_9 ρ_8 h_10 => ?_)
    obtain ⟨er_9, e9⟩ := h_10
    rw [e9, er_9]
    clear e9
    refine g_istore X [(5, .int _), (0, .ref _), (1, .int _), (2, .int _), (3, .int _), (4, .int _)] dX3_worst_46 (by decide) rfl ?_
    refine g_iload X dX3_worst_48 0 rfl ?_
    refine g_iload_n X dX3_worst_50 4 rfl rfl ?_
    refine g_icmp_le X 60 dX3_worst_51 (by decide) (fun c_11 => ?_) (fun c_11 => ?_)
    · skip
      have cQ := c_11
      refine g_iincN X i 4 [(4, .int _), (5, .int _), (0, .ref _), (1, .int _), (2, .int _), (3, .int _)] 5 dX3_worst_60 rfl (by decide) rfl ?_
      refine g_goto X 24 dX3_worst_63 (by decide) ?_
      refine g_ls (ls' := [(0, .ref _), (1, .int _), (2, .int _), (3, .int _), (4, .int _)]) [2, 3, 4, 5, 0] rfl ?_
      exact g_eqv (ihi (by omega) trivial) (by simp only [wsP]; first | rw [if_pos cQ] | rw [if_neg cQ]) (rfl) rfl rfl
    · skip
      have cQ := c_11
      refine g_iload X dX3_worst_54 0 rfl ?_
      refine g_istore_n X [(3, .int _), (5, .int _), (0, .ref _), (1, .int _), (2, .int _), (4, .int _)] dX3_worst_56 rfl (by decide) rfl ?_
      refine g_iload X dX3_worst_57 5 rfl ?_
      refine g_istore_n X [(2, .int _), (3, .int _), (5, .int _), (0, .ref _), (1, .int _), (4, .int _)] dX3_worst_59 rfl (by decide) rfl ?_
      refine g_iincN X i 4 [(4, .int _), (2, .int _), (3, .int _), (5, .int _), (0, .ref _), (1, .int _)] 5 dX3_worst_60 rfl (by decide) rfl ?_
      refine g_goto X 24 dX3_worst_63 (by decide) ?_
      refine g_ls (ls' := [(0, .ref _), (1, .int _), (2, .int _), (3, .int _), (4, .int _)]) [4, 5, 1, 2, 0] rfl ?_
      exact g_eqv (ihi (by omega) trivial) (by simp only [wsP]; first | rw [if_pos cQ] | rw [if_neg cQ]) (rfl) rfl rfl

set_option maxHeartbeats 1000000 in
set_option maxRecDepth 100000 in
theorem c_X3_foresee (l : Launch) (hl0 : l.stackTraces = false) (D : va_G) (cy : Nat → ClassId) (ad : Nat → Nat) (ρ : Nat → Nat → Int32) (N T S d : Nat) (hI : Inv ρ N T S d) (x y : Int32) : gXI l yX3_foresee cX3_foresee 3 (some .int) { frames := 7, cells := 3, slots := 18, locals := 110 } D cy 48 ad (cC ad cy) [.ref (ad 0), .int x, .int y] ρ (fun r ρ1 => forF ρ x y = (0, r, ρ1)) (xq2 "java/lang/IllegalArgumentException" "java/lang/IndexOutOfBoundsException" (forF ρ x y).1) 3 18 := by
  refine gXI_of (ls := [(0, .ref (ad 0)), (1, .int x), (2, .int y)]) RX3 rfl (by decide +kernel) (Nat.le_of_ble_eq_true rfl) rfl ?_
  intro p e s m args below meth c A X hE hxt hr hlk
  obtain ⟨hT, hT6, hS, hS8, hd, hdN, hN, hTu, hSt, hPi, hZ, hHd⟩ := id hI
  have hwd : wdF ρ = nI (d % 7) := by unfold wdF; rw [hd, nI_clamp (by omega)]
  refine g_iload_n X dX3_foresee_0 1 rfl rfl ?_
  refine g_xcallSv X hE (c_X3_checkNights l hl0 D cy ad ρ _) kl_X3_166 ⟨rfl, rfl, Nat.le_of_ble_eq_true rfl, Nat.le_of_ble_eq_true rfl⟩ rfl rfl (Nat.le_of_ble_eq_true rfl) dX3_foresee_1 ⟨Nat.le_of_ble_eq_true rfl, Nat.le_of_ble_eq_true rfl⟩ (g_out hxt hlk (fun E h => Or.inl ⟨h.1, by unfold forF; rw [if_neg h.2]⟩) (by omega) (by omega)) (fun ρ_1 h_3 => ?_)
  obtain ⟨e9, ib9⟩ := h_3
  rw [e9]
  obtain ⟨nn, hnn, rfl⟩ := nig_N ib9
  have ibnn := ib9
  have exnn : ix (nI nn) = nn := nI_clamp (by omega)
  refine g_iload_n X dX3_foresee_4 2 rfl rfl ?_
  refine g_iconst X (v := 5) dX3_foresee_5 (by decide) ?_
  refine g_icmp_lt X 15 dX3_foresee_6 (by decide) (fun c_4 => ?_) (fun c_4 => ?_)
  · skip
    have cA := c_4
    exact g_throw X hE hl0 (names := ["java/lang/RuntimeException", "java/lang/Exception"]) (by decide +kernel) (by decide +kernel) kk_X3_67 ki_IOB kst_179 kh_IOB_71 kh_IOB_71g dX3_foresee_15 dX3_foresee_18 dX3_foresee_19 dX3_foresee_21 dX3_foresee_24 hxt ⟨Nat.le_of_ble_eq_true rfl, Nat.le_of_ble_eq_true rfl, Nat.le_of_ble_eq_true rfl, Nat.le_of_ble_eq_true rfl⟩ hlk (Or.inr ⟨rfl, by unfold forF; rw [if_pos ibnn, if_neg (fun q => q.1 cA)]⟩) (by omega) (by omega)
  · skip
    have cA := c_4
    refine g_iload_n X dX3_foresee_9 2 rfl rfl ?_
    refine g_bipush X (v := 7) dX3_foresee_10 (by decide) ?_
    refine g_icmp_le X 25 dX3_foresee_12 (by decide) (fun c_5 => ?_) (fun c_5 => ?_)
    · skip
      have ibw : ¬ y < 5 ∧ y ≤ 7 := ⟨cA, c_5⟩
      obtain ⟨k, hk, rfl⟩ := fs_N ibw
      have exk : ix (nI k) = k := nI_clamp (by omega)
      refine g_aload_n X dX3_foresee_25 0 rfl rfl ?_
      refine g_getr X 0 (by omega) 1 (by decide) ku_X3 kv_X3 kf_X3_16 rfl lC_o_trial dX3_foresee_26 ?_
      refine g_aload_n X dX3_foresee_29 0 rfl rfl ?_
      refine g_getr X 0 (by omega) 0 (by decide) ku_X3 kv_X3 kf_X3_10 rfl lC_o_pipes dX3_foresee_30 ?_
      refine g_mcallVv X 6 (c_X0_become l D cy ad ρ (fun j hj => (hPi j hj).2.2)) kl_X3_181 ⟨rfl, rfl, Nat.le_of_ble_eq_true rfl, Nat.le_of_ble_eq_true rfl⟩ (by omega) (lC_P (Or.inr rfl)) kv_X0 rfl rfl (Nat.le_of_ble_eq_true rfl) dX3_foresee_33 ⟨Nat.le_of_ble_eq_true rfl, Nat.le_of_ble_eq_true rfl⟩ (fun ρ_6 h_8 => ?_)
      rw [h_8]
      have hdb : becR ρ 12 0 7 = nI d := by simp [becR, hd]
      refine g_aload_n X dX3_foresee_36 0 rfl rfl ?_
      refine g_aload_n X dX3_foresee_37 0 rfl rfl ?_
      refine g_getr X 0 (by omega) 1 (by decide) ku_X3 kv_X3 kf_X3_16 rfl lC_o_trial dX3_foresee_38 ?_
      refine g_iload_n X dX3_foresee_41 1 rfl rfl ?_
      refine g_mcallVi X 0 (c_X3_passNights l D cy ad (becR ρ 12) 6 nn d (Or.inr rfl) hdb (by omega)) kl_X3_169 ⟨rfl, rfl, Nat.le_of_ble_eq_true rfl, Nat.le_of_ble_eq_true rfl⟩ (by omega) lC_O kv_X3 rfl rfl (Nat.le_of_ble_eq_true rfl) dX3_foresee_42 ⟨Nat.le_of_ble_eq_true rfl, Nat.le_of_ble_eq_true rfl⟩ (fun r_10 ρ_9 h_11 => ?_)
      obtain ⟨er9, eρ9⟩ := h_11
      rw [eρ9]
      refine g_pop X dX3_foresee_45 rfl ?_
      refine g_aload_n X dX3_foresee_46 0 rfl rfl ?_
      refine g_getr X 0 (by omega) 1 (by decide) ku_X3 kv_X3 kf_X3_16 rfl lC_o_trial dX3_foresee_47 ?_
      refine g_iload_n X dX3_foresee_50 2 rfl rfl ?_
      refine g_mcallVi X 6 (c_X0_sumUp l D cy ad (nsR (becR ρ 12) 6 d nn) 6 k (Or.inr rfl) (by omega)) kl_X3_184 ⟨rfl, rfl, Nat.le_of_ble_eq_true rfl, Nat.le_of_ble_eq_true rfl⟩ (by omega) (lC_P (Or.inr rfl)) kv_X0 rfl rfl (Nat.le_of_ble_eq_true rfl) dX3_foresee_51 ⟨Nat.le_of_ble_eq_true rfl, Nat.le_of_ble_eq_true rfl⟩ (fun r_13 ρ_12 h_14 => ?_)
      obtain ⟨er_13, e9⟩ := h_14
      rw [e9, er_13]
      clear e9
      exact g_xiret X hr hlk (by omega) (by omega) dX3_foresee_54 (by unfold forF; rw [if_pos ibnn, if_pos ibw, exnn, exk]; unfold forR; rw [hd, show ix (nI d) = d from nI_clamp (by omega)])
    · skip
      have cB := c_5
      exact g_throw X hE hl0 (names := ["java/lang/RuntimeException", "java/lang/Exception"]) (by decide +kernel) (by decide +kernel) kk_X3_67 ki_IOB kst_179 kh_IOB_71 kh_IOB_71g dX3_foresee_15 dX3_foresee_18 dX3_foresee_19 dX3_foresee_21 dX3_foresee_24 hxt ⟨Nat.le_of_ble_eq_true rfl, Nat.le_of_ble_eq_true rfl, Nat.le_of_ble_eq_true rfl, Nat.le_of_ble_eq_true rfl⟩ hlk (Or.inr ⟨rfl, by unfold forF; rw [if_pos ibnn, if_neg (fun q => cB q.2)]⟩) (by omega) (by omega)

set_option maxHeartbeats 1000000 in
set_option maxRecDepth 100000 in
theorem c_X3_lasts (l : Launch) (hl0 : l.stackTraces = false) (D : va_G) (cy : Nat → ClassId) (ad : Nat → Nat) (ρ : Nat → Nat → Int32) (N T S d : Nat) (hI : Inv ρ N T S d) (x : Int32) : gXI l yX3_lasts cX3_lasts 3 (some .int) { frames := 7, cells := 3, slots := 18, locals := 111 } D cy 48 ad (cC ad cy) [.ref (ad 0), .int x] ρ (fun r ρ1 => lasF ρ x = (0, r, ρ1)) (xq1 "java/lang/IndexOutOfBoundsException" (lasF ρ x).1) 3 18 := by
  refine gXI_of (ls := [(0, .ref (ad 0)), (1, .int x)]) RX3 rfl (by decide +kernel) (Nat.le_of_ble_eq_true rfl) rfl ?_
  intro p e s m args below meth c A X hE hxt hr hlk
  obtain ⟨hT, hT6, hS, hS8, hd, hdN, hN, hTu, hSt, hPi, hZ, hHd⟩ := id hI
  have hwd : wdF ρ = nI (d % 7) := by unfold wdF; rw [hd, nI_clamp (by omega)]
  refine g_aload_n X dX3_lasts_0 0 rfl rfl ?_
  refine g_iload_n X dX3_lasts_1 1 rfl rfl ?_
  refine g_xcallVv X hE 0 (c_X3_checkTune l hl0 D cy ad ρ _) kl_X3_51 ⟨rfl, rfl, Nat.le_of_ble_eq_true rfl, Nat.le_of_ble_eq_true rfl⟩ (by omega) lC_O kv_X3 rfl rfl (Nat.le_of_ble_eq_true rfl) dX3_lasts_2 ⟨Nat.le_of_ble_eq_true rfl, Nat.le_of_ble_eq_true rfl⟩ (g_out hxt hlk (fun E h => ⟨h.1, by unfold lasF; rw [if_neg h.2]⟩) (by omega) (by omega)) (fun ρ_1 h_3 => ?_)
  obtain ⟨e9, ib9⟩ := h_3
  rw [e9]
  obtain ⟨t, ht, rfl⟩ := inb_N hT (by omega) ib9
  have ibt := ib9
  have ext : ix (nI t) = t := nI_clamp (by omega)
  refine g_aload_n X dX3_lasts_5 0 rfl rfl ?_
  refine g_getr X 0 (by omega) 1 (by decide) ku_X3 kv_X3 kf_X3_16 rfl lC_o_trial dX3_lasts_6 ?_
  refine g_aload_n X dX3_lasts_9 0 rfl rfl ?_
  refine g_getr X 0 (by omega) 0 (by decide) ku_X3 kv_X3 kf_X3_10 rfl lC_o_pipes dX3_lasts_10 ?_
  refine g_mcallVv X 6 (c_X0_become l D cy ad ρ (fun j hj => (hPi j hj).2.2)) kl_X3_181 ⟨rfl, rfl, Nat.le_of_ble_eq_true rfl, Nat.le_of_ble_eq_true rfl⟩ (by omega) (lC_P (Or.inr rfl)) kv_X0 rfl rfl (Nat.le_of_ble_eq_true rfl) dX3_lasts_13 ⟨Nat.le_of_ble_eq_true rfl, Nat.le_of_ble_eq_true rfl⟩ (fun ρ_4 h_6 => ?_)
  rw [h_6]
  refine g_iconst X (v := 0) dX3_lasts_16 (by decide) ?_
  refine g_istore_n X [(2, .int _), (0, .ref _), (1, .int _)] dX3_lasts_17 rfl (by decide) rfl ?_
  refine g_ls (ls' := [(0, .ref _), (1, .int _), (2, .int _)]) [1, 2, 0] rfl ?_
  refine g_loop (fun i => ∀ j, j < i → ¬ sndC (trR ρ t j) 6 t (-1) < 30) (fun i => trR ρ t i) (fun i => [(0, .ref (ad 0)), (1, .int (nI t)), (2, .int (nI i))]) (fun _ => ((0 + 1) + 0)) (fun _ => ((0 + 6) + 0)) 99 0 (fun j h => absurd h (by omega)) (by omega) rfl rfl rfl rfl (fun i h0i hi hIi ihi => ?_)
  obtain ⟨ρa, eρa⟩ : ∃ ρz, ρz = trR ρ t i := ⟨_, rfl⟩
  rw [← eρa]
  refine g_iload_n X dX3_lasts_18 2 rfl rfl ?_
  refine g_bipush X (v := 99) dX3_lasts_19 (by decide) ?_
  refine g_icmp_geN X i 99 61 (by omega) (by omega) dX3_lasts_21 (by decide) (fun c_7 => ?_) (fun c_7 => ?_)
  · skip
    have cR := c_7
    refine g_iload_n X dX3_lasts_61 2 rfl rfl ?_
    exact g_xiret X hr hlk (by omega) (by omega) dX3_lasts_62 (by unfold lasF; rw [if_pos ibt, ext, laK_spec (K := i) hi hIi (Or.inl (by omega)), eρa])
  · skip
    refine g_aload_n X dX3_lasts_24 0 rfl rfl ?_
    refine g_getr X 0 (by omega) 2 (by decide) ku_X3 kv_X3 kf_X3_21 rfl lC_o_tunes dX3_lasts_25 ?_
    refine g_iload_n X dX3_lasts_28 1 rfl rfl ?_
    refine g_aaldN X 11 t 2 (by omega) lC_tunes rfl (by omega) (by decide) dX3_lasts_29 ?_
    refine g_aload_n X dX3_lasts_30 0 rfl rfl ?_
    refine g_getr X 0 (by omega) 1 (by decide) ku_X3 kv_X3 kf_X3_16 rfl lC_o_trial dX3_lasts_31 ?_
    refine g_mcallVi X (14 + 3 * t) (c_X2_soundOf l D cy ad ρa t 6 (by omega) (Or.inr rfl)) kl_X3_156 ⟨rfl, rfl, Nat.le_of_ble_eq_true rfl, Nat.le_of_ble_eq_true rfl⟩ (by omega) (lC_T (by omega)) kv_X2 rfl rfl (Nat.le_of_ble_eq_true rfl) dX3_lasts_34 ⟨Nat.le_of_ble_eq_true rfl, Nat.le_of_ble_eq_true rfl⟩ (fun r_9 ρ_8 h_10 => ?_)
    obtain ⟨er_9, e9⟩ := h_10
    rw [e9, er_9]
    clear e9
    refine g_bipush X (v := 30) dX3_lasts_37 (by decide) ?_
    refine g_icmp_lt X 61 dX3_lasts_39 (by decide) (fun c_11 => ?_) (fun c_11 => ?_)
    · skip
      have cQ := c_11
      refine g_iload_n X dX3_lasts_61 2 rfl rfl ?_
      exact g_xiret X hr hlk (by omega) (by omega) dX3_lasts_62 (by unfold lasF; rw [if_pos ibt, ext, laK_spec (K := i) hi hIi (Or.inr (by rw [← eρa]; exact cQ)), eρa])
    · skip
      have cQ := c_11
      refine g_aload_n X dX3_lasts_42 0 rfl rfl ?_
      refine g_getr X 0 (by omega) 2 (by decide) ku_X3 kv_X3 kf_X3_21 rfl lC_o_tunes dX3_lasts_43 ?_
      refine g_iload_n X dX3_lasts_46 1 rfl rfl ?_
      refine g_aaldN X 11 t 2 (by omega) lC_tunes rfl (by omega) (by decide) dX3_lasts_47 ?_
      refine g_aload_n X dX3_lasts_48 0 rfl rfl ?_
      refine g_getr X 0 (by omega) 1 (by decide) ku_X3 kv_X3 kf_X3_16 rfl lC_o_trial dX3_lasts_49 ?_
      refine g_mcallVv X (14 + 3 * t) (c_X2_wearDown l D cy ad ρa t 6 (by omega) (Or.inr rfl)) kl_X3_127 ⟨rfl, rfl, Nat.le_of_ble_eq_true rfl, Nat.le_of_ble_eq_true rfl⟩ (by omega) (lC_T (by omega)) kv_X2 rfl rfl (Nat.le_of_ble_eq_true rfl) dX3_lasts_52 ⟨Nat.le_of_ble_eq_true rfl, Nat.le_of_ble_eq_true rfl⟩ (fun ρ_12 h_14 => ?_)
      refine g_iincN X i 2 [(2, .int _), (0, .ref _), (1, .int _)] 2 dX3_lasts_55 rfl (by decide) rfl ?_
      refine g_goto X 18 dX3_lasts_58 (by decide) ?_
      refine g_ls (ls' := [(0, .ref _), (1, .int _), (2, .int _)]) [1, 2, 0] rfl ?_
      exact g_eqv (ihi (by omega) (fun j h => by
      rcases Nat.lt_or_ge j i with q | q
      · exact hIi j q
      · rw [show j = i by omega, ← eρa]; exact cQ)) (rfl) (by subst_vars; rfl) rfl rfl

set_option maxHeartbeats 1000000 in
set_option maxRecDepth 100000 in
theorem c_X3_mean (l : Launch) (D : va_G) (cy : Nat → ClassId) (ad : Nat → Nat) (ρ : Nat → Nat → Int32) (N T S d : Nat) (hI : Inv ρ N T S d) : gMD l yX3_mean cX3_mean 3 (some .double) { frames := 4, cells := 0, slots := 0, locals := 87 } D cy 48 ad (cC ad cy) [.ref (ad 0)] ρ (fun r ρ1 => r = meaF ρ ∧ ρ1 = ρ) 0 0 := by
  refine gMD_of (ls := [(0, .ref (ad 0))]) RX3 rfl (by decide +kernel) (Nat.le_of_ble_eq_true rfl) rfl ?_
  intro p e s m args below meth c A X hr hlk hnm
  obtain ⟨hT, hT6, hS, hS8, hd, hdN, hN, hTu, hSt, hPi, hZ, hHd⟩ := id hI
  have hwd : wdF ρ = nI (d % 7) := by unfold wdF; rw [hd, nI_clamp (by omega)]
  refine g_aload_n X dX3_mean_0 0 rfl rfl ?_
  refine g_geti X 0 (by omega) 5 (by decide) ku_X3 kv_X3 kf_X3_41 rfl lC_o_tuneCount dX3_mean_1 ?_
  rw [show ρ 0 5 = nI T from hT]
  refine g_if_ne X 9 dX3_mean_4 (by decide) (fun c_1 => ?_) (fun c_1 => ?_)
  · skip
    have cA := c_1
    refine g_iconst X (v := 0) dX3_mean_9 (by decide) ?_
    refine g_istore_n X [(1, .int _), (0, .ref _)] dX3_mean_10 rfl (by decide) rfl ?_
    refine g_iconst X (v := 0) dX3_mean_11 (by decide) ?_
    refine g_istore_n X [(2, .int _), (1, .int _), (0, .ref _)] dX3_mean_12 rfl (by decide) rfl ?_
    refine g_ls (ls' := [(0, .ref _), (1, .int _), (2, .int _)]) [2, 1, 0] rfl ?_
    refine g_loop (fun _ => True) (fun _ => ρ) (fun i => [(0, .ref (ad 0)), (1, .int (sumI (fun t => sndC ρ 1 t (-1)) i)), (2, .int (nI i))]) (fun _ => 0) (fun _ => 0) T 0 trivial (by omega) rfl rfl rfl rfl (fun i h0i hi hIi ihi => ?_)
    refine g_iload_n X dX3_mean_13 2 rfl rfl ?_
    refine g_aload_n X dX3_mean_14 0 rfl rfl ?_
    refine g_geti X 0 (by omega) 5 (by decide) ku_X3 kv_X3 kf_X3_41 rfl lC_o_tuneCount dX3_mean_15 ?_
    rw [show ρ 0 5 = nI T from hT]
    refine g_icmp_geN X i T 43 (by omega) (by omega) dX3_mean_18 (by decide) (fun c_2 => ?_) (fun c_2 => ?_)
    · skip
      have hiT : i = T := by omega
      rw [hiT]
      refine g_iload_n X dX3_mean_43 1 rfl rfl ?_
      refine g_i2d X dX3_mean_44 ?_
      refine g_aload_n X dX3_mean_45 0 rfl rfl ?_
      refine g_geti X 0 (by omega) 5 (by decide) ku_X3 kv_X3 kf_X3_41 rfl lC_o_tuneCount dX3_mean_46 ?_
      rw [show ρ 0 5 = nI T from hT]
      refine g_i2d X dX3_mean_49 ?_
      refine g_ddiv X dX3_mean_50 (Inv_mean hI cA) ?_
      exact g_dret X hr hlk (by omega) (by omega) dX3_mean_51 (⟨by unfold meaF; rw [if_neg (by rw [hT]; exact cA), hT, show ix (nI T) = T from nI_clamp (by omega)], rfl⟩)
    · skip
      refine g_iload_n X dX3_mean_21 1 rfl rfl ?_
      refine g_aload_n X dX3_mean_22 0 rfl rfl ?_
      refine g_getr X 0 (by omega) 2 (by decide) ku_X3 kv_X3 kf_X3_21 rfl lC_o_tunes dX3_mean_23 ?_
      refine g_iload_n X dX3_mean_26 2 rfl rfl ?_
      refine g_aaldN X 11 i 2 (by omega) lC_tunes rfl (by omega) (by decide) dX3_mean_27 ?_
      refine g_aload_n X dX3_mean_28 0 rfl rfl ?_
      refine g_getr X 0 (by omega) 0 (by decide) ku_X3 kv_X3 kf_X3_10 rfl lC_o_pipes dX3_mean_29 ?_
      refine g_mcallVi X (14 + 3 * i) (c_X2_soundOf l D cy ad ρ i 1 (by omega) (Or.inl rfl)) kl_X3_156 ⟨rfl, rfl, Nat.le_of_ble_eq_true rfl, Nat.le_of_ble_eq_true rfl⟩ (by omega) (lC_T (by omega)) kv_X2 rfl rfl (Nat.le_of_ble_eq_true rfl) dX3_mean_32 ⟨Nat.le_of_ble_eq_true rfl, Nat.le_of_ble_eq_true rfl⟩ (fun r_4 ρ_3 h_5 => ?_)
      obtain ⟨er_4, e9⟩ := h_5
      rw [e9, er_4]
      clear e9
      refine g_iadd X dX3_mean_35 ?_
      refine g_istore_n X [(1, .int _), (0, .ref _), (2, .int _)] dX3_mean_36 rfl (by decide) rfl ?_
      refine g_iincN X i 2 [(2, .int _), (1, .int _), (0, .ref _)] 2 dX3_mean_37 rfl (by decide) rfl ?_
      refine g_goto X 13 dX3_mean_40 (by decide) ?_
      refine g_ls (ls' := [(0, .ref _), (1, .int _), (2, .int _)]) [2, 1, 0] rfl ?_
      exact g_eqv (ihi (by omega) trivial) (rfl) (rfl) rfl rfl
  · skip
    have cA := c_1
    refine g_dconst0 X dX3_mean_7 ?_
    exact g_dret X hr hlk (by omega) (by omega) dX3_mean_8 (⟨by unfold meaF; rw [if_pos (hT.trans cA)], rfl⟩)

set_option maxHeartbeats 1000000 in
set_option maxRecDepth 100000 in
theorem c_X3_digest (l : Launch) (D : va_G) (cy : Nat → ClassId) (ad : Nat → Nat) (ρ : Nat → Nat → Int32) (N T S d : Nat) (hI : Inv ρ N T S d) : gML l yX3_digest cX3_digest 5 (some .long) { frames := 6, cells := 0, slots := 0, locals := 135 } D cy 48 ad (cC ad cy) [.ref (ad 0)] ρ (fun r ρ1 => r = digF ρ ∧ ρ1 = ρ) 0 0 := by
  refine gML_of (ls := [(0, .ref (ad 0))]) RX3 rfl (by decide +kernel) (Nat.le_of_ble_eq_true rfl) rfl ?_
  intro p e s m args below meth c A X hr hlk hnm
  obtain ⟨hT, hT6, hS, hS8, hd, hdN, hN, hTu, hSt, hPi, hZ, hHd⟩ := id hI
  have hwd : wdF ρ = nI (d % 7) := by unfold wdF; rw [hd, nI_clamp (by omega)]
  refine g_ldc2 X kL_X3_187 dX3_digest_0 ?_
  refine g_lstore_n X [(1, .long _), (0, .ref _)] dX3_digest_3 rfl (by decide) rfl ?_
  refine g_iconst X (v := 0) dX3_digest_4 (by decide) ?_
  refine g_istore_n X [(3, .int _), (1, .long _), (0, .ref _)] dX3_digest_5 rfl (by decide) rfl ?_
  refine g_ls (ls' := [(0, .ref _), (1, .long _), (3, .int _)]) [2, 1, 0] rfl ?_
  refine g_loop (fun _ => True) (fun _ => ρ) (fun i => [(0, .ref (ad 0)), (1, .long (mxs (countF ρ) i 1097)), (3, .int (nI i))]) (fun _ => 0) (fun _ => 0) 9 0 trivial (by omega) rfl rfl rfl rfl (fun i h0i hi hIi ihi => ?_)
  refine g_iload_n X dX3_digest_6 2 rfl rfl ?_
  refine g_bipush X (v := 9) dX3_digest_7 (by decide) ?_
  refine g_icmp_geN X i 9 28 (by omega) (by omega) dX3_digest_9 (by decide) (fun c_1 => ?_) (fun c_1 => ?_)
  · skip
    refine g_iconst X (v := 0) dX3_digest_28 (by decide) ?_
    refine g_istore_n X [(3, .int _), (0, .ref _), (1, .long _)] dX3_digest_29 rfl (by decide) rfl ?_
    obtain rfl : i = 9 := by omega
    refine g_ls (ls' := [(0, .ref _), (1, .long _), (3, .int _)]) [1, 2, 0] rfl ?_
    refine g_loop (fun _ => True) (fun _ => ρ) (fun u => [(0, .ref (ad 0)), (1, .long (fold1 (fun i dd => mxs (fun w => tellF ρ 1 i w) 5 dd) u (mxs (countF ρ) 9 1097))), (3, .int (nI u))]) (fun _ => (0)) (fun _ => (0)) 12 0 trivial (by omega) rfl rfl rfl rfl (fun u h0u hu hIu ihu => ?_)
    refine g_iload_n X dX3_digest_30 2 rfl rfl ?_
    refine g_bipush X (v := 12) dX3_digest_31 (by decide) ?_
    refine g_icmp_geN X u 12 72 (by omega) (by omega) dX3_digest_33 (by decide) (fun c_2 => ?_) (fun c_2 => ?_)
    · skip
      refine g_iconst X (v := 0) dX3_digest_72 (by decide) ?_
      refine g_istore_n X [(3, .int _), (0, .ref _), (1, .long _)] dX3_digest_73 rfl (by decide) rfl ?_
      obtain rfl : u = 12 := by omega
      refine g_ls (ls' := [(0, .ref _), (1, .long _), (3, .int _)]) [1, 2, 0] rfl ?_
      refine g_loop (fun _ => True) (fun _ => ρ) (fun k => [(0, .ref (ad 0)), (1, .long (mxs (fun j => ρ 13 j) k (fold1 (fun i dd => mxs (fun w => tellF ρ 1 i w) 5 dd) 12 (mxs (countF ρ) 9 1097)))), (3, .int (nI k))]) (fun _ => ((0))) (fun _ => ((0))) 7 0 trivial (by omega) rfl rfl rfl rfl (fun k h0k hk hIk ihk => ?_)
      refine g_iload_n X dX3_digest_74 2 rfl rfl ?_
      refine g_bipush X (v := 7) dX3_digest_75 (by decide) ?_
      refine g_icmp_geN X k 7 97 (by omega) (by omega) dX3_digest_77 (by decide) (fun c_3 => ?_) (fun c_3 => ?_)
      · skip
        refine g_iconst X (v := 0) dX3_digest_97 (by decide) ?_
        refine g_istore_n X [(3, .int _), (0, .ref _), (1, .long _)] dX3_digest_98 rfl (by decide) rfl ?_
        obtain rfl : k = 7 := by omega
        refine g_ls (ls' := [(0, .ref _), (1, .long _), (3, .int _)]) [1, 2, 0] rfl ?_
        refine g_loop (fun _ => True) (fun _ => ρ) (fun t => [(0, .ref (ad 0)), (1, .long (fold1 (mtF ρ) t (mxs (fun j => ρ 13 j) 7 (fold1 (fun i dd => mxs (fun w => tellF ρ 1 i w) 5 dd) 12 (mxs (countF ρ) 9 1097))))), (3, .int (nI t))]) (fun _ => (((0)))) (fun _ => (((0)))) T 0 trivial (by omega) rfl rfl rfl rfl (fun t h0t ht hIt iht => ?_)
        refine g_iload_n X dX3_digest_99 2 rfl rfl ?_
        refine g_aload_n X dX3_digest_100 0 rfl rfl ?_
        refine g_geti X 0 (by omega) 5 (by decide) ku_X3 kv_X3 kf_X3_41 rfl lC_o_tuneCount dX3_digest_101 ?_
        rw [show ρ 0 5 = nI T from hT]
        refine g_icmp_geN X t T 125 (by omega) (by omega) dX3_digest_104 (by decide) (fun c_4 => ?_) (fun c_4 => ?_)
        · skip
          refine g_iconst X (v := 0) dX3_digest_125 (by decide) ?_
          refine g_istore_n X [(3, .int _), (0, .ref _), (1, .long _)] dX3_digest_126 rfl (by decide) rfl ?_
          obtain rfl : t = T := by omega
          refine g_ls (ls' := [(0, .ref _), (1, .long _), (3, .int _)]) [1, 2, 0] rfl ?_
          refine g_loop (fun _ => True) (fun _ => ρ) (fun z => [(0, .ref (ad 0)), (1, .long (fold1 (msF ρ) z (fold1 (mtF ρ) t (mxs (fun j => ρ 13 j) 7 (fold1 (fun i dd => mxs (fun w => tellF ρ 1 i w) 5 dd) 12 (mxs (countF ρ) 9 1097)))))), (3, .int (nI z))]) (fun _ => ((((0))))) (fun _ => ((((0))))) S 0 trivial (by omega) rfl rfl rfl rfl (fun z h0z hz hIz ihz => ?_)
          refine g_iload_n X dX3_digest_127 2 rfl rfl ?_
          refine g_aload_n X dX3_digest_128 0 rfl rfl ?_
          refine g_geti X 0 (by omega) 6 (by decide) ku_X3 kv_X3 kf_X3_83 rfl lC_o_streetCount dX3_digest_129 ?_
          rw [show ρ 0 6 = nI S from hS]
          refine g_icmp_geN X z S 148 (by omega) (by omega) dX3_digest_132 (by decide) (fun c_5 => ?_) (fun c_5 => ?_)
          · skip
            refine g_lload_n X dX3_digest_148 1 rfl rfl ?_
            exact g_lret X hr hlk (by omega) (by omega) dX3_digest_149 (⟨by unfold digF; rw [hT, hS, show ix (nI t) = t from nI_clamp (by omega), show ix (nI S) = S from nI_clamp (by omega), show z = S by omega], rfl⟩)
          · skip
            refine g_aload_n X dX3_digest_135 0 rfl rfl ?_
            refine g_lload_n X dX3_digest_136 1 rfl rfl ?_
            refine g_iload_n X dX3_digest_137 2 rfl rfl ?_
            refine g_mcallVl X 0 (c_X3_mixStreet l D cy ad ρ z _ _ _ (by omega) hT hT6 hd (by omega) (fun t ht => Inv_pay hI (by omega) ht)) kl_X3_197 ⟨rfl, rfl, Nat.le_of_ble_eq_true rfl, Nat.le_of_ble_eq_true rfl⟩ (by omega) lC_O kv_X3 rfl rfl (Nat.le_of_ble_eq_true rfl) dX3_digest_138 ⟨Nat.le_of_ble_eq_true rfl, Nat.le_of_ble_eq_true rfl⟩ (fun r_7 ρ_6 h_8 => ?_)
            obtain ⟨er_7, e9⟩ := h_8
            rw [e9, er_7]
            clear e9
            refine g_lstore_n X [(1, .long _), (0, .ref _), (3, .int _)] dX3_digest_141 rfl (by decide) rfl ?_
            refine g_iincN X z 3 [(3, .int _), (1, .long _), (0, .ref _)] 2 dX3_digest_142 rfl (by decide) rfl ?_
            refine g_goto X 127 dX3_digest_145 (by decide) ?_
            refine g_ls (ls' := [(0, .ref _), (1, .long _), (3, .int _)]) [2, 1, 0] rfl ?_
            exact g_eqv (ihz (by omega) trivial) (rfl) (rfl) rfl rfl
        · skip
          obtain ⟨L, hL, hL16, hLn, hLc⟩ := hTu t (by omega)
          refine g_aload_n X dX3_digest_107 0 rfl rfl ?_
          refine g_lload_n X dX3_digest_108 1 rfl rfl ?_
          refine g_aload_n X dX3_digest_109 0 rfl rfl ?_
          refine g_getr X 0 (by omega) 2 (by decide) ku_X3 kv_X3 kf_X3_21 rfl lC_o_tunes dX3_digest_110 ?_
          refine g_iload_n X dX3_digest_113 2 rfl rfl ?_
          refine g_aaldN X 11 t 2 (by omega) lC_tunes rfl (by omega) (by decide) dX3_digest_114 ?_
          refine g_mcallVl X 0 (c_X3_mixTune l D cy ad ρ t _ _ (by omega) hL hL16) kl_X3_193 ⟨rfl, rfl, Nat.le_of_ble_eq_true rfl, Nat.le_of_ble_eq_true rfl⟩ (by omega) lC_O kv_X3 rfl rfl (Nat.le_of_ble_eq_true rfl) dX3_digest_115 ⟨Nat.le_of_ble_eq_true rfl, Nat.le_of_ble_eq_true rfl⟩ (fun r_10 ρ_9 h_11 => ?_)
          obtain ⟨er_10, e9⟩ := h_11
          rw [e9, er_10]
          clear e9
          refine g_lstore_n X [(1, .long _), (0, .ref _), (3, .int _)] dX3_digest_118 rfl (by decide) rfl ?_
          refine g_iincN X t 3 [(3, .int _), (1, .long _), (0, .ref _)] 2 dX3_digest_119 rfl (by decide) rfl ?_
          refine g_goto X 99 dX3_digest_122 (by decide) ?_
          refine g_ls (ls' := [(0, .ref _), (1, .long _), (3, .int _)]) [2, 1, 0] rfl ?_
          exact g_eqv (iht (by omega) trivial) (rfl) (rfl) rfl rfl
      · skip
        refine g_lload_n X dX3_digest_80 1 rfl rfl ?_
        refine g_aload_n X dX3_digest_81 0 rfl rfl ?_
        refine g_getr X 0 (by omega) 4 (by decide) ku_X3 kv_X3 kf_X3_33 rfl lC_o_damp dX3_digest_82 ?_
        refine g_iload_n X dX3_digest_85 2 rfl rfl ?_
        refine g_ialdN X 13 k (by omega) lC_damp (by omega) (by decide) dX3_digest_86 ?_
        refine g_mcallSl X (c_X3_mix l D cy ad ρ _ _) kl_X3_189 ⟨rfl, rfl, Nat.le_of_ble_eq_true rfl, Nat.le_of_ble_eq_true rfl⟩ rfl rfl (Nat.le_of_ble_eq_true rfl) dX3_digest_87 ⟨Nat.le_of_ble_eq_true rfl, Nat.le_of_ble_eq_true rfl⟩ (fun r_13 ρ_12 h_14 => ?_)
        obtain ⟨er_13, e9⟩ := h_14
        rw [e9, er_13]
        clear e9
        refine g_lstore_n X [(1, .long _), (0, .ref _), (3, .int _)] dX3_digest_90 rfl (by decide) rfl ?_
        refine g_iincN X k 3 [(3, .int _), (1, .long _), (0, .ref _)] 2 dX3_digest_91 rfl (by decide) rfl ?_
        refine g_goto X 74 dX3_digest_94 (by decide) ?_
        refine g_ls (ls' := [(0, .ref _), (1, .long _), (3, .int _)]) [2, 1, 0] rfl ?_
        exact g_eqv (ihk (by omega) trivial) (rfl) (rfl) rfl rfl
    · skip
      refine g_iconst X (v := 0) dX3_digest_36 (by decide) ?_
      refine g_istore X [(4, .int _), (0, .ref _), (1, .long _), (3, .int _)] dX3_digest_37 (by decide) rfl ?_
      refine g_ls (ls' := [(0, .ref _), (1, .long _), (3, .int _), (4, .int _)]) [1, 2, 3, 0] rfl ?_
      refine g_loop (fun _ => True) (fun _ => ρ) (fun v => [(0, .ref (ad 0)), (1, .long (mxs (fun w => tellF ρ 1 u w) v (fold1 (fun i dd => mxs (fun w => tellF ρ 1 i w) 5 dd) u (mxs (countF ρ) 9 1097)))), (3, .int (nI u)), (4, .int (nI v))]) (fun _ => ((0))) (fun _ => ((0))) 5 0 trivial (by omega) rfl rfl rfl rfl (fun v h0v hv hIv ihv => ?_)
      refine g_iload X dX3_digest_39 3 rfl ?_
      refine g_iconst X (v := 5) dX3_digest_41 (by decide) ?_
      refine g_icmp_geN X v 5 66 (by omega) (by omega) dX3_digest_42 (by decide) (fun c_15 => ?_) (fun c_15 => ?_)
      · skip
        obtain rfl : v = 5 := by omega
        refine g_iincN X u 3 [(3, .int _), (0, .ref _), (1, .long _), (4, .int _)] 2 dX3_digest_66 rfl (by decide) rfl ?_
        refine g_goto X 30 dX3_digest_69 (by decide) ?_
        refine g_ls (ls' := [(0, .ref _), (1, .long _), (3, .int _)]) [1, 2, 0] rfl ?_
        exact g_eqv (ihu (by omega) trivial) (rfl) (rfl) rfl rfl
      · skip
        refine g_lload_n X dX3_digest_45 1 rfl rfl ?_
        refine g_aload_n X dX3_digest_46 0 rfl rfl ?_
        refine g_getr X 0 (by omega) 0 (by decide) ku_X3 kv_X3 kf_X3_10 rfl lC_o_pipes dX3_digest_47 ?_
        refine g_iload_n X dX3_digest_50 2 rfl rfl ?_
        refine g_iload X dX3_digest_51 3 rfl ?_
        refine g_mcallVi X 1 (c_X0_tell l D cy ad ρ 1 u v (Or.inl rfl) (by omega) (by omega)) kl_X3_153 ⟨rfl, rfl, Nat.le_of_ble_eq_true rfl, Nat.le_of_ble_eq_true rfl⟩ (by omega) (lC_P (Or.inl rfl)) kv_X0 rfl rfl (Nat.le_of_ble_eq_true rfl) dX3_digest_53 ⟨Nat.le_of_ble_eq_true rfl, Nat.le_of_ble_eq_true rfl⟩ (fun r_17 ρ_16 h_18 => ?_)
        obtain ⟨er_17, e9⟩ := h_18
        rw [e9, er_17]
        clear e9
        refine g_mcallSl X (c_X3_mix l D cy ad ρ _ _) kl_X3_189 ⟨rfl, rfl, Nat.le_of_ble_eq_true rfl, Nat.le_of_ble_eq_true rfl⟩ rfl rfl (Nat.le_of_ble_eq_true rfl) dX3_digest_56 ⟨Nat.le_of_ble_eq_true rfl, Nat.le_of_ble_eq_true rfl⟩ (fun r_20 ρ_19 h_21 => ?_)
        obtain ⟨er_20, e9⟩ := h_21
        rw [e9, er_20]
        clear e9
        refine g_lstore_n X [(1, .long _), (0, .ref _), (3, .int _), (4, .int _)] dX3_digest_59 rfl (by decide) rfl ?_
        refine g_iincN X v 4 [(4, .int _), (1, .long _), (0, .ref _), (3, .int _)] 3 dX3_digest_60 rfl (by decide) rfl ?_
        refine g_goto X 39 dX3_digest_63 (by decide) ?_
        refine g_ls (ls' := [(0, .ref _), (1, .long _), (3, .int _), (4, .int _)]) [2, 1, 3, 0] rfl ?_
        exact g_eqv (ihv (by omega) trivial) (rfl) (rfl) rfl rfl
  · skip
    refine g_lload_n X dX3_digest_12 1 rfl rfl ?_
    refine g_aload_n X dX3_digest_13 0 rfl rfl ?_
    refine g_iload_n X dX3_digest_14 2 rfl rfl ?_
    refine g_mcallVi X 0 (c_X3_countNow l D cy ad ρ i d (by omega) hd (by omega)) kl_X3_163 ⟨rfl, rfl, Nat.le_of_ble_eq_true rfl, Nat.le_of_ble_eq_true rfl⟩ (by omega) lC_O kv_X3 rfl rfl (Nat.le_of_ble_eq_true rfl) dX3_digest_15 ⟨Nat.le_of_ble_eq_true rfl, Nat.le_of_ble_eq_true rfl⟩ (fun r_23 ρ_22 h_24 => ?_)
    obtain ⟨er_23, e9⟩ := h_24
    rw [e9, er_23]
    clear e9
    refine g_mcallSl X (c_X3_mix l D cy ad ρ _ _) kl_X3_189 ⟨rfl, rfl, Nat.le_of_ble_eq_true rfl, Nat.le_of_ble_eq_true rfl⟩ rfl rfl (Nat.le_of_ble_eq_true rfl) dX3_digest_18 ⟨Nat.le_of_ble_eq_true rfl, Nat.le_of_ble_eq_true rfl⟩ (fun r_26 ρ_25 h_27 => ?_)
    obtain ⟨er_26, e9⟩ := h_27
    rw [e9, er_26]
    clear e9
    refine g_lstore_n X [(1, .long _), (0, .ref _), (3, .int _)] dX3_digest_21 rfl (by decide) rfl ?_
    refine g_iincN X i 3 [(3, .int _), (1, .long _), (0, .ref _)] 2 dX3_digest_22 rfl (by decide) rfl ?_
    refine g_goto X 6 dX3_digest_25 (by decide) ?_
    refine g_ls (ls' := [(0, .ref _), (1, .long _), (3, .int _)]) [2, 1, 0] rfl ?_
    exact g_eqv (ihi (by omega) trivial) (rfl) (rfl) rfl rfl
