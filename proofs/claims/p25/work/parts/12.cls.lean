set_option maxHeartbeats 1000000 in
set_option maxRecDepth 100000 in
theorem c_X1_isPermittedOn (l : Launch) (D : va_G) (cy : Nat → ClassId) (ad : Nat → Nat) (ρ : Nat → Nat → Int32) (z : Nat) (w : Int32) (hs : z < 8) : gMI l yX1_isPermittedOn cX1_isPermittedOn 2 (some .boolean) { frames := 0, cells := 0, slots := 0, locals := 0 } D cy 48 ad (cC ad cy) [.ref (ad (32 + 2 * z)), .int w] ρ (fun r ρ1 => r = pmF (ρ (32 + 2 * z) 2) w ∧ ρ1 = ρ) 0 0 := by
  refine gMI_of (ls := [(0, .ref (ad (32 + 2 * z))), (1, .int w)]) RX1 rfl (by decide +kernel) (Nat.le_of_ble_eq_true rfl) rfl ?_
  intro p e s m args below meth c A X hr hlk hnm
  refine g_aload_n X dX1_isPermittedOn_0 0 rfl rfl ?_
  refine g_geti X (32 + 2 * z) (by omega) 2 (by decide) ku_X1 kv_X1 kf_X1_15 rfl (lC_f_permits hs) dX1_isPermittedOn_1 ?_
  refine g_iload_n X dX1_isPermittedOn_4 1 rfl rfl ?_
  refine g_ishr X dX1_isPermittedOn_5 ?_
  refine g_iconst X (v := 1) dX1_isPermittedOn_6 (by decide) ?_
  refine g_iand X dX1_isPermittedOn_7 ?_
  refine g_iconst X (v := 1) dX1_isPermittedOn_8 (by decide) ?_
  refine g_icmp_ne X 16 dX1_isPermittedOn_9 (by decide) (fun c_1 => ?_) (fun c_1 => ?_)
  · skip
    refine g_iconst X (v := 0) dX1_isPermittedOn_16 (by decide) ?_
    exact g_zret X hr hlk (by decide) (by omega) (by omega) dX1_isPermittedOn_17 (⟨by simp only [pmF]; rw [if_neg c_1], rfl⟩)
  · skip
    refine g_iconst X (v := 1) dX1_isPermittedOn_12 (by decide) ?_
    refine g_goto X 17 dX1_isPermittedOn_13 (by decide) ?_
    exact g_zret X hr hlk (by decide) (by omega) (by omega) dX1_isPermittedOn_17 (⟨by simp only [pmF]; rw [if_pos c_1], rfl⟩)

set_option maxHeartbeats 1000000 in
set_option maxRecDepth 100000 in
theorem c_X1_payFor (l : Launch) (D : va_G) (cy : Nat → ClassId) (ad : Nat → Nat) (ρ : Nat → Nat → Int32) (z t : Nat) (snd : Int32) (hs : z < 8) (ht : t < 6) (hpo : payOK ρ z t snd) : gMI l yX1_payFor cX1_payFor 5 (some .int) { frames := 0, cells := 0, slots := 0, locals := 0 } D cy 48 ad (cC ad cy) [.ref (ad (32 + 2 * z)), .int (nI t), .int snd] ρ (fun r ρ1 => r = payV ρ z t snd ∧ ρ1 = ρ) 0 0 := by
  refine gMI_of (ls := [(0, .ref (ad (32 + 2 * z))), (1, .int (nI t)), (2, .int snd)]) RX1 rfl (by decide +kernel) (Nat.le_of_ble_eq_true rfl) rfl ?_
  intro p e s m args below meth c A X hr hlk hnm
  obtain ⟨P, h, hP1, hP20, hh, hh31⟩ := hpo
  refine g_aload_n X dX1_payFor_0 0 rfl rfl ?_
  refine g_geti X (32 + 2 * z) (by omega) 1 (by decide) ku_X1 kv_X1 kf_X1_19 rfl (lC_f_listeners hs) dX1_payFor_1 ?_
  refine g_iload_n X dX1_payFor_4 2 rfl rfl ?_
  refine g_imul X dX1_payFor_5 ?_
  refine g_bipush X (v := 60) dX1_payFor_6 (by decide) ?_
  refine g_idiv X dX1_payFor_8 (by decide) ?_
  rw [hP1]
  refine g_istore_n X [(3, .int _), (0, .ref _), (1, .int _), (2, .int _)] dX1_payFor_9 rfl (by decide) rfl ?_
  refine g_iconst X (v := 0) dX1_payFor_10 (by decide) ?_
  refine g_istore X [(4, .int _), (3, .int _), (0, .ref _), (1, .int _), (2, .int _)] dX1_payFor_11 (by decide) rfl ?_
  refine g_ls (ls' := [(0, .ref _), (1, .int _), (2, .int _), (3, .int _), (4, .int _)]) [2, 3, 4, 1, 0] rfl ?_
  refine g_loop (fun _ => True) (fun _ => ρ) (fun i => [(0, .ref (ad (32 + 2 * z))), (1, .int (nI t)), (2, .int snd), (3, .int (nI (P / 2 ^ i))), (4, .int (nI i))]) (fun _ => 0) (fun _ => 0) h 0 trivial (by omega) (by simp [nI_zero]) rfl rfl rfl (fun i h0i hi hIi ihi => ?_)
  refine g_iload X dX1_payFor_13 4 rfl ?_
  refine g_aload_n X dX1_payFor_15 0 rfl rfl ?_
  refine g_getr X (32 + 2 * z) (by omega) 0 (by decide) ku_X1 kv_X1 kf_X1_9 rfl (lC_f_heard hs) dX1_payFor_16 ?_
  refine g_iload_n X dX1_payFor_19 1 rfl rfl ?_
  refine g_ialdN X (33 + 2 * z) t (by omega) (lC_heard hs) (by omega) (by decide) dX1_payFor_20 ?_
  rw [hh]
  refine g_icmp_geN X i h 38 (by omega) (by omega) dX1_payFor_21 (by decide) (fun c_1 => ?_) (fun c_1 => ?_)
  · skip
    refine g_iload_n X dX1_payFor_38 3 rfl rfl ?_
    exact g_iret X hr hlk (by omega) (by omega) dX1_payFor_39 (by refine ⟨?_, rfl⟩; simp only [payV]; rw [hP1, hh, nI_clamp (by omega), nI_clamp hh31, show i = h by omega])
  · skip
    refine g_iload_n X dX1_payFor_24 3 rfl rfl ?_
    refine g_if_le X 38 dX1_payFor_25 (by decide) (fun c_2 => ?_) (fun c_2 => ?_)
    · skip
      refine g_iload_n X dX1_payFor_38 3 rfl rfl ?_
      exact g_iret X hr hlk (by omega) (by omega) dX1_payFor_39 (by
          have hz := nI_le0 (Nat.lt_of_le_of_lt (Nat.div_le_self _ _) (by omega)) c_2
          have hz2 : P / 2 ^ h = 0 := by
            have h5 : P < 2 ^ i := by
              rcases Nat.lt_or_ge P (2 ^ i) with q | q
              · exact q
              · have := Nat.div_pos q (Nat.two_pow_pos i); omega
            exact Nat.div_eq_of_lt (Nat.lt_of_lt_of_le h5 (Nat.pow_le_pow_right (by omega) (by omega)))
          refine ⟨?_, rfl⟩; simp only [payV]; rw [hP1, hh, nI_clamp (by omega), nI_clamp hh31, hz, hz2])
    · skip
      refine g_iload_n X dX1_payFor_28 3 rfl rfl ?_
      refine g_iconst X (v := 2) dX1_payFor_29 (by decide) ?_
      refine g_idiv X dX1_payFor_30 (by decide) ?_
      rw [halfN hP20]
      refine g_istore_n X [(3, .int _), (0, .ref _), (1, .int _), (2, .int _), (4, .int _)] dX1_payFor_31 rfl (by decide) rfl ?_
      refine g_iincN X i 4 [(4, .int _), (3, .int _), (0, .ref _), (1, .int _), (2, .int _)] 4 dX1_payFor_32 rfl (by decide) rfl ?_
      refine g_goto X 13 dX1_payFor_35 (by decide) ?_
      refine g_ls (ls' := [(0, .ref _), (1, .int _), (2, .int _), (3, .int _), (4, .int _)]) [2, 3, 4, 1, 0] rfl ?_
      exact g_eqv (ihi (by omega) trivial) (rfl) (rfl) rfl rfl

set_option maxHeartbeats 1000000 in
set_option maxRecDepth 100000 in
theorem c_X1_forgetDay (l : Launch) (D : va_G) (cy : Nat → ClassId) (ad : Nat → Nat) (ρ : Nat → Nat → Int32) (z : Nat) (hs : z < 8) : gMV l yX1_forgetDay cX1_forgetDay 2 none { frames := 0, cells := 0, slots := 0, locals := 0 } D cy 48 ad (cC ad cy) [.ref (ad (32 + 2 * z))] ρ (fun ρ1 => ρ1 = fgR ρ z 6) 0 0 := by
  refine gMV_of (ls := [(0, .ref (ad (32 + 2 * z)))]) RX1 rfl (by decide +kernel) (Nat.le_of_ble_eq_true rfl) rfl ?_
  intro p e s m args below meth c A X hr hlk hnm
  refine g_iconst X (v := 0) dX1_forgetDay_0 (by decide) ?_
  refine g_istore_n X [(1, .int _), (0, .ref _)] dX1_forgetDay_1 rfl (by decide) rfl ?_
  refine g_ls (ls' := [(0, .ref _), (1, .int _)]) [1, 0] rfl ?_
  refine g_loop (fun _ => True) (fun i => fgR ρ z i) (fun i => [(0, .ref (ad (32 + 2 * z))), (1, .int (nI i))]) (fun _ => 0) (fun _ => 0) 6 0 trivial (by omega) rfl (by funext k j; simp [fgR]) rfl rfl (fun i h0i hi hIi ihi => ?_)
  obtain ⟨ρ_1, eρ_1⟩ : ∃ ρz, ρz = fgR ρ z i := ⟨_, rfl⟩
  rw [← eρ_1]
  refine g_iload_n X dX1_forgetDay_2 1 rfl rfl ?_
  refine g_bipush X (v := 6) dX1_forgetDay_3 (by decide) ?_
  refine g_icmp_geN X i 6 21 (by omega) (by omega) dX1_forgetDay_5 (by decide) (fun c_2 => ?_) (fun c_2 => ?_)
  · skip
    exact g_vret X hr hlk (by omega) (by omega) dX1_forgetDay_21 (by subst_vars; rw [show i = 6 by omega])
  · skip
    refine g_aload_n X dX1_forgetDay_8 0 rfl rfl ?_
    refine g_getr X (32 + 2 * z) (by omega) 0 (by decide) ku_X1 kv_X1 kf_X1_9 rfl (lC_f_heard hs) dX1_forgetDay_9 ?_
    refine g_iload_n X dX1_forgetDay_12 1 rfl rfl ?_
    refine g_iconst X (v := 0) dX1_forgetDay_13 (by decide) ?_
    refine g_iastN X (33 + 2 * z) i (by omega) (lC_heard hs) (by omega) (by decide) dX1_forgetDay_14 (fun ρ_3 eρ_3 => ?_)
    refine g_iincN X i 1 [(1, .int _), (0, .ref _)] 1 dX1_forgetDay_15 rfl (by decide) rfl ?_
    refine g_goto X 2 dX1_forgetDay_18 (by decide) ?_
    refine g_ls (ls' := [(0, .ref _), (1, .int _)]) [1, 0] rfl ?_
    exact g_eqv (ihi (by omega) trivial) (rfl) (by subst_vars; funext k j; simp only [up2_e, fgR]; grind) rfl rfl

set_option maxHeartbeats 1000000 in
set_option maxRecDepth 100000 in
theorem c_X1_heardInAll (l : Launch) (D : va_G) (cy : Nat → ClassId) (ad : Nat → Nat) (ρ : Nat → Nat → Int32) (z : Nat) (hs : z < 8) : gMI l yX1_heardInAll cX1_heardInAll 3 (some .int) { frames := 0, cells := 0, slots := 0, locals := 0 } D cy 48 ad (cC ad cy) [.ref (ad (32 + 2 * z))] ρ (fun r ρ1 => r = hrd ρ z ∧ ρ1 = ρ) 0 0 := by
  refine gMI_of (ls := [(0, .ref (ad (32 + 2 * z)))]) RX1 rfl (by decide +kernel) (Nat.le_of_ble_eq_true rfl) rfl ?_
  intro p e s m args below meth c A X hr hlk hnm
  refine g_iconst X (v := 0) dX1_heardInAll_0 (by decide) ?_
  refine g_istore_n X [(1, .int _), (0, .ref _)] dX1_heardInAll_1 rfl (by decide) rfl ?_
  refine g_iconst X (v := 0) dX1_heardInAll_2 (by decide) ?_
  refine g_istore_n X [(2, .int _), (1, .int _), (0, .ref _)] dX1_heardInAll_3 rfl (by decide) rfl ?_
  refine g_ls (ls' := [(0, .ref _), (1, .int _), (2, .int _)]) [2, 1, 0] rfl ?_
  refine g_loop (fun _ => True) (fun _ => ρ) (fun i => [(0, .ref (ad (32 + 2 * z))), (1, .int (sumI (fun j => ρ (33 + 2 * z) j) i)), (2, .int (nI i))]) (fun _ => 0) (fun _ => 0) 6 0 trivial (by omega) rfl rfl rfl rfl (fun i h0i hi hIi ihi => ?_)
  refine g_iload_n X dX1_heardInAll_4 2 rfl rfl ?_
  refine g_bipush X (v := 6) dX1_heardInAll_5 (by decide) ?_
  refine g_icmp_geN X i 6 25 (by omega) (by omega) dX1_heardInAll_7 (by decide) (fun c_1 => ?_) (fun c_1 => ?_)
  · skip
    refine g_iload_n X dX1_heardInAll_25 1 rfl rfl ?_
    exact g_iret X hr hlk (by omega) (by omega) dX1_heardInAll_26 (by rw [show i = 6 by omega]; exact ⟨rfl, rfl⟩)
  · skip
    refine g_iload_n X dX1_heardInAll_10 1 rfl rfl ?_
    refine g_aload_n X dX1_heardInAll_11 0 rfl rfl ?_
    refine g_getr X (32 + 2 * z) (by omega) 0 (by decide) ku_X1 kv_X1 kf_X1_9 rfl (lC_f_heard hs) dX1_heardInAll_12 ?_
    refine g_iload_n X dX1_heardInAll_15 2 rfl rfl ?_
    refine g_ialdN X (33 + 2 * z) i (by omega) (lC_heard hs) (by omega) (by decide) dX1_heardInAll_16 ?_
    refine g_iadd X dX1_heardInAll_17 ?_
    refine g_istore_n X [(1, .int _), (0, .ref _), (2, .int _)] dX1_heardInAll_18 rfl (by decide) rfl ?_
    refine g_iincN X i 2 [(2, .int _), (1, .int _), (0, .ref _)] 2 dX1_heardInAll_19 rfl (by decide) rfl ?_
    refine g_goto X 4 dX1_heardInAll_22 (by decide) ?_
    refine g_ls (ls' := [(0, .ref _), (1, .int _), (2, .int _)]) [2, 1, 0] rfl ?_
    exact g_eqv (ihi (by omega) trivial) (rfl) (rfl) rfl rfl

set_option maxHeartbeats 1000000 in
set_option maxRecDepth 100000 in
theorem c_X1_tell (l : Launch) (D : va_G) (cy : Nat → ClassId) (ad : Nat → Nat) (ρ : Nat → Nat → Int32) (z w : Nat) (wd : Int32) (hs : z < 8) (hw : w < 5) : gMI l yX1_tell cX1_tell 3 (some .int) { frames := 1, cells := 0, slots := 0, locals := 22 } D cy 48 ad (cC ad cy) [.ref (ad (32 + 2 * z)), .int (nI w), .int wd] ρ (fun r ρ1 => r = toldF ρ z w wd ∧ ρ1 = ρ) 0 0 := by
  refine gMI_of (ls := [(0, .ref (ad (32 + 2 * z))), (1, .int (nI w)), (2, .int wd)]) RX1 rfl (by decide +kernel) (Nat.le_of_ble_eq_true rfl) rfl ?_
  intro p e s m args below meth c A X hr hlk hnm
  refine g_iload_n X dX1_tell_0 1 rfl rfl ?_
  rcases (show w = 0 ∨ w = 1 ∨ w = 2 ∨ w = 3 ∨ w = 4 by omega) with rfl | rfl | rfl | rfl | rfl
  · skip
    refine g_tableIn X 32 dX1_tell_1 (by decide) (by decide) rfl (by decide) ?_
    refine g_aload_n X dX1_tell_32 0 rfl rfl ?_
    refine g_geti X (32 + 2 * z) (by omega) 1 (by decide) ku_X1 kv_X1 kf_X1_19 rfl (lC_f_listeners hs) dX1_tell_33 ?_
    exact g_iret X hr hlk (by omega) (by omega) dX1_tell_36 (⟨rfl, rfl⟩)
  · skip
    refine g_tableIn X 37 dX1_tell_1 (by decide) (by decide) rfl (by decide) ?_
    refine g_aload_n X dX1_tell_37 0 rfl rfl ?_
    refine g_geti X (32 + 2 * z) (by omega) 2 (by decide) ku_X1 kv_X1 kf_X1_15 rfl (lC_f_permits hs) dX1_tell_38 ?_
    exact g_iret X hr hlk (by omega) (by omega) dX1_tell_41 (⟨rfl, rfl⟩)
  · skip
    refine g_tableIn X 42 dX1_tell_1 (by decide) (by decide) rfl (by decide) ?_
    refine g_aload_n X dX1_tell_42 0 rfl rfl ?_
    refine g_iload_n X dX1_tell_43 2 rfl rfl ?_
    refine g_mcallVi X (32 + 2 * z) (c_X1_isPermittedOn l D cy ad ρ z _ hs) kl_X1_22 ⟨rfl, rfl, Nat.le_of_ble_eq_true rfl, Nat.le_of_ble_eq_true rfl⟩ (by omega) (lC_S hs) kv_X1 rfl rfl (Nat.le_of_ble_eq_true rfl) dX1_tell_44 ⟨Nat.le_of_ble_eq_true rfl, Nat.le_of_ble_eq_true rfl⟩ (fun r_2 ρ_1 h_3 => ?_)
    obtain ⟨er_2, e9⟩ := h_3
    rw [e9, er_2]
    clear e9
    refine g_if_eq X 54 dX1_tell_47 (by decide) (fun c_4 => ?_) (fun c_4 => ?_)
    · skip
      refine g_iconst X (v := 0) dX1_tell_54 (by decide) ?_
      exact g_iret X hr hlk (by omega) (by omega) dX1_tell_55 (⟨by simp only [toldF, pmF] at *; simp at *; simp [*], rfl⟩)
    · skip
      refine g_iconst X (v := 1) dX1_tell_50 (by decide) ?_
      refine g_goto X 55 dX1_tell_51 (by decide) ?_
      exact g_iret X hr hlk (by omega) (by omega) dX1_tell_55 (⟨by simp only [toldF, pmF] at *; simp at *; simp [*], rfl⟩)
  · skip
    refine g_tableIn X 56 dX1_tell_1 (by decide) (by decide) rfl (by decide) ?_
    refine g_aload_n X dX1_tell_56 0 rfl rfl ?_
    refine g_geti X (32 + 2 * z) (by omega) 3 (by decide) ku_X1 kv_X1 kf_X1_26 rfl (lC_f_paid hs) dX1_tell_57 ?_
    exact g_iret X hr hlk (by omega) (by omega) dX1_tell_60 (⟨rfl, rfl⟩)
  · skip
    refine g_tableOut X 61 dX1_tell_1 (by decide) (by decide) ?_
    refine g_aload_n X dX1_tell_61 0 rfl rfl ?_
    refine g_mcallVi X (32 + 2 * z) (c_X1_heardInAll l D cy ad ρ z hs) kl_X1_29 ⟨rfl, rfl, Nat.le_of_ble_eq_true rfl, Nat.le_of_ble_eq_true rfl⟩ (by omega) (lC_S hs) kv_X1 rfl rfl (Nat.le_of_ble_eq_true rfl) dX1_tell_62 ⟨Nat.le_of_ble_eq_true rfl, Nat.le_of_ble_eq_true rfl⟩ (fun r_6 ρ_5 h_7 => ?_)
    obtain ⟨er_6, e9⟩ := h_7
    rw [e9, er_6]
    clear e9
    exact g_iret X hr hlk (by omega) (by omega) dX1_tell_65 (⟨rfl, rfl⟩)

set_option maxHeartbeats 1000000 in
set_option maxRecDepth 100000 in
theorem c_X2_append (l : Launch) (D : va_G) (cy : Nat → ClassId) (ad : Nat → Nat) (ρ : Nat → Nat → Int32) (t L q : Nat) (ht : t < 6) (hL : ρ (14 + 3 * t) 2 = nI L) (hL16 : L < 16) (hq : q < 12) : gMI l yX2_append cX2_append 2 (some .int) { frames := 0, cells := 0, slots := 0, locals := 0 } D cy 48 ad (cC ad cy) [.ref (ad (14 + 3 * t)), .int (nI q)] ρ (fun r ρ1 => r = nI (L + 1) ∧ ρ1 = up2 (up2 (up2 ρ (15 + 3 * t) L (nI q)) (16 + 3 * t) q (ρ (16 + 3 * t) q + 1)) (14 + 3 * t) 2 (nI (L + 1))) 0 0 := by
  refine gMI_of (ls := [(0, .ref (ad (14 + 3 * t))), (1, .int (nI q))]) RX2 rfl (by decide +kernel) (Nat.le_of_ble_eq_true rfl) rfl ?_
  intro p e s m args below meth c A X hr hlk hnm
  refine g_aload_n X dX2_append_0 0 rfl rfl ?_
  refine g_getr X (14 + 3 * t) (by omega) 0 (by decide) ku_X2 kv_X2 kf_X2_9 rfl (lC_f_notes ht) dX2_append_1 ?_
  refine g_aload_n X dX2_append_4 0 rfl rfl ?_
  refine g_geti X (14 + 3 * t) (by omega) 2 (by decide) ku_X2 kv_X2 kf_X2_18 rfl (lC_f_length ht) dX2_append_5 ?_
  rw [hL]
  refine g_iload_n X dX2_append_8 1 rfl rfl ?_
  refine g_iastN X (15 + 3 * t) L (by omega) (lC_notes ht) (by omega) (by decide) dX2_append_9 (fun ρ_1 eρ_1 => ?_)
  refine g_aload_n X dX2_append_10 0 rfl rfl ?_
  refine g_getr X (14 + 3 * t) (by omega) 1 (by decide) ku_X2 kv_X2 kf_X2_15 rfl (lC_f_times ht) dX2_append_11 ?_
  refine g_iload_n X dX2_append_14 1 rfl rfl ?_
  refine g_dup2 X dX2_append_15 rfl rfl ?_
  refine g_ialdN X (16 + 3 * t) q (by omega) (lC_times ht) (by omega) (by decide) dX2_append_16 ?_
  rw [show ρ_1 (16 + 3 * t) q = ρ (16 + 3 * t) q by subst_vars; rw [up2_k (by omega)]]
  refine g_iconst X (v := 1) dX2_append_17 (by decide) ?_
  refine g_iadd X dX2_append_18 ?_
  refine g_iastN X (16 + 3 * t) q (by omega) (lC_times ht) (by omega) (by decide) dX2_append_19 (fun ρ_2 eρ_2 => ?_)
  refine g_aload_n X dX2_append_20 0 rfl rfl ?_
  refine g_dup X dX2_append_21 rfl ?_
  refine g_geti X (14 + 3 * t) (by omega) 2 (by decide) ku_X2 kv_X2 kf_X2_18 rfl (lC_f_length ht) dX2_append_22 ?_
  rw [show ρ_2 (14 + 3 * t) 2 = nI L by subst_vars; rw [up2_k (by omega), up2_k (by omega)]; exact hL]
  refine g_iconst X (v := 1) dX2_append_25 (by decide) ?_
  refine g_iadd X dX2_append_26 ?_
  rw [nI_1]
  refine g_puti X (14 + 3 * t) (by omega) 2 (by decide) ku_X2 kv_X2 kf_X2_18 rfl tyX2 tyX2_ok nmX2 rfl (by decide +kernel) (lC_f_length ht) dX2_append_27 (fun ρ_3 eρ_3 => ?_)
  refine g_aload_n X dX2_append_30 0 rfl rfl ?_
  refine g_geti X (14 + 3 * t) (by omega) 2 (by decide) ku_X2 kv_X2 kf_X2_18 rfl (lC_f_length ht) dX2_append_31 ?_
  rw [show ρ_3 (14 + 3 * t) 2 = nI (L + 1) by subst_vars; rw [up2_s]]
  exact g_iret X hr hlk (by omega) (by omega) dX2_append_34 (by subst_vars; exact ⟨rfl, rfl⟩)

set_option maxHeartbeats 1000000 in
set_option maxRecDepth 100000 in
theorem c_X2_soundSparing (l : Launch) (D : va_G) (cy : Nat → ClassId) (ad : Nat → Nat) (ρ : Nat → Nat → Int32) (t b : Nat) (sp : Int32) (ht : t < 6) (hb : isP b) : gMI l yX2_soundSparing cX2_soundSparing 5 (some .int) { frames := 2, cells := 0, slots := 0, locals := 42 } D cy 48 ad (cC ad cy) [.ref (ad (14 + 3 * t)), .ref (ad b), .int sp] ρ (fun r ρ1 => r = sndC ρ b t sp ∧ ρ1 = ρ) 0 0 := by
  refine gMI_of (ls := [(0, .ref (ad (14 + 3 * t))), (1, .ref (ad b)), (2, .int sp)]) RX2 rfl (by decide +kernel) (Nat.le_of_ble_eq_true rfl) rfl ?_
  intro p e s m args below meth c A X hr hlk hnm
  have hb9 := isP_lt hb
  refine g_aload_n X dX2_soundSparing_0 0 rfl rfl ?_
  refine g_geti X (14 + 3 * t) (by omega) 2 (by decide) ku_X2 kv_X2 kf_X2_18 rfl (lC_f_length ht) dX2_soundSparing_1 ?_
  refine g_if_ne X 9 dX2_soundSparing_4 (by decide) (fun c_1 => ?_) (fun c_1 => ?_)
  · skip
    refine g_iconst X (v := 0) dX2_soundSparing_9 (by decide) ?_
    refine g_istore_n X [(3, .int _), (0, .ref _), (1, .ref _), (2, .int _)] dX2_soundSparing_10 rfl (by decide) rfl ?_
    refine g_iconst X (v := 0) dX2_soundSparing_11 (by decide) ?_
    refine g_istore X [(4, .int _), (3, .int _), (0, .ref _), (1, .ref _), (2, .int _)] dX2_soundSparing_12 (by decide) rfl ?_
    refine g_ls (ls' := [(0, .ref _), (1, .ref _), (2, .int _), (3, .int _), (4, .int _)]) [2, 3, 4, 1, 0] rfl ?_
    refine g_loop (fun _ => True) (fun _ => ρ) (fun i => [(0, .ref (ad (14 + 3 * t))), (1, .ref (ad b)), (2, .int sp), (3, .int (sumI (fun i => if nI i = sp then 0 else ρ (16 + 3 * t) i * hP ρ b i) i)), (4, .int (nI i))]) (fun _ => 0) (fun _ => 0) 12 0 trivial (by omega) rfl rfl rfl rfl (fun i h0i hi hIi ihi => ?_)
    refine g_iload X dX2_soundSparing_14 4 rfl ?_
    refine g_bipush X (v := 12) dX2_soundSparing_16 (by decide) ?_
    refine g_icmp_geN X i 12 50 (by omega) (by omega) dX2_soundSparing_18 (by decide) (fun c_2 => ?_) (fun c_2 => ?_)
    · skip
      refine g_bipush X (v := 60) dX2_soundSparing_50 (by decide) ?_
      refine g_iload_n X dX2_soundSparing_52 3 rfl rfl ?_
      refine g_aload_n X dX2_soundSparing_53 0 rfl rfl ?_
      refine g_geti X (14 + 3 * t) (by omega) 2 (by decide) ku_X2 kv_X2 kf_X2_18 rfl (lC_f_length ht) dX2_soundSparing_54 ?_
      refine g_idiv X dX2_soundSparing_57 c_1 ?_
      refine g_isub X dX2_soundSparing_58 ?_
      exact g_iret X hr hlk (by omega) (by omega) dX2_soundSparing_59 (⟨by simp only [sndC]; rw [if_neg c_1, show i = 12 by omega], rfl⟩)
    · skip
      refine g_iload X dX2_soundSparing_21 4 rfl ?_
      refine g_iload_n X dX2_soundSparing_23 2 rfl rfl ?_
      refine g_icmp_eq X 44 dX2_soundSparing_24 (by decide) (fun c_3 => ?_) (fun c_3 => ?_)
      · skip
        refine g_iincN X i 4 [(4, .int _), (0, .ref _), (1, .ref _), (2, .int _), (3, .int _)] 4 dX2_soundSparing_44 rfl (by decide) rfl ?_
        refine g_goto X 14 dX2_soundSparing_47 (by decide) ?_
        refine g_ls (ls' := [(0, .ref _), (1, .ref _), (2, .int _), (3, .int _), (4, .int _)]) [1, 2, 3, 4, 0] rfl ?_
        exact g_eqv (ihi (by omega) trivial) (by simp only [sumI, *, ↓reduceIte, Int32.add_zero]) (rfl) rfl rfl
      · skip
        refine g_iload_n X dX2_soundSparing_27 3 rfl rfl ?_
        refine g_aload_n X dX2_soundSparing_28 0 rfl rfl ?_
        refine g_getr X (14 + 3 * t) (by omega) 1 (by decide) ku_X2 kv_X2 kf_X2_15 rfl (lC_f_times ht) dX2_soundSparing_29 ?_
        refine g_iload X dX2_soundSparing_32 4 rfl ?_
        refine g_ialdN X (16 + 3 * t) i (by omega) (lC_times ht) (by omega) (by decide) dX2_soundSparing_34 ?_
        refine g_aload_n X dX2_soundSparing_35 1 rfl rfl ?_
        refine g_iload X dX2_soundSparing_36 4 rfl ?_
        refine g_mcallVi X b (c_X0_harmOf l D cy ad ρ b i hb (by omega)) kl_X2_26 ⟨rfl, rfl, Nat.le_of_ble_eq_true rfl, Nat.le_of_ble_eq_true rfl⟩ (by omega) (lC_P hb) kv_X0 rfl rfl (Nat.le_of_ble_eq_true rfl) dX2_soundSparing_38 ⟨Nat.le_of_ble_eq_true rfl, Nat.le_of_ble_eq_true rfl⟩ (fun r_5 ρ_4 h_6 => ?_)
        obtain ⟨er_5, e9⟩ := h_6
        rw [e9, er_5]
        clear e9
        refine g_imul X dX2_soundSparing_41 ?_
        refine g_iadd X dX2_soundSparing_42 ?_
        refine g_istore_n X [(3, .int _), (0, .ref _), (1, .ref _), (2, .int _), (4, .int _)] dX2_soundSparing_43 rfl (by decide) rfl ?_
        refine g_iincN X i 4 [(4, .int _), (3, .int _), (0, .ref _), (1, .ref _), (2, .int _)] 4 dX2_soundSparing_44 rfl (by decide) rfl ?_
        refine g_goto X 14 dX2_soundSparing_47 (by decide) ?_
        refine g_ls (ls' := [(0, .ref _), (1, .ref _), (2, .int _), (3, .int _), (4, .int _)]) [2, 3, 4, 1, 0] rfl ?_
        exact g_eqv (ihi (by omega) trivial) (by simp only [sumI, *, ↓reduceIte, Int32.add_zero]) (rfl) rfl rfl
  · skip
    refine g_iconst X (v := 0) dX2_soundSparing_7 (by decide) ?_
    exact g_iret X hr hlk (by omega) (by omega) dX2_soundSparing_8 (⟨by simp only [sndC]; rw [if_pos c_1], rfl⟩)

set_option maxHeartbeats 1000000 in
set_option maxRecDepth 100000 in
theorem c_X2_soundOf (l : Launch) (D : va_G) (cy : Nat → ClassId) (ad : Nat → Nat) (ρ : Nat → Nat → Int32) (t b : Nat) (ht : t < 6) (hb : isP b) : gMI l yX2_soundOf cX2_soundOf 2 (some .int) { frames := 3, cells := 0, slots := 0, locals := 66 } D cy 48 ad (cC ad cy) [.ref (ad (14 + 3 * t)), .ref (ad b)] ρ (fun r ρ1 => r = sndC ρ b t (-1) ∧ ρ1 = ρ) 0 0 := by
  refine gMI_of (ls := [(0, .ref (ad (14 + 3 * t))), (1, .ref (ad b))]) RX2 rfl (by decide +kernel) (Nat.le_of_ble_eq_true rfl) rfl ?_
  intro p e s m args below meth c A X hr hlk hnm
  have hb9 := isP_lt hb
  refine g_aload_n X dX2_soundOf_0 0 rfl rfl ?_
  refine g_aload_n X dX2_soundOf_1 1 rfl rfl ?_
  refine g_iconst X (v := -1) dX2_soundOf_2 (by decide) ?_
  refine g_mcallVi X (14 + 3 * t) (c_X2_soundSparing l D cy ad ρ t b _ ht hb) kl_X2_22 ⟨rfl, rfl, Nat.le_of_ble_eq_true rfl, Nat.le_of_ble_eq_true rfl⟩ (by omega) (lC_T ht) kv_X2 rfl rfl (Nat.le_of_ble_eq_true rfl) dX2_soundOf_3 ⟨Nat.le_of_ble_eq_true rfl, Nat.le_of_ble_eq_true rfl⟩ (fun r_2 ρ_1 h_3 => ?_)
  obtain ⟨er_2, e9⟩ := h_3
  rw [e9, er_2]
  clear e9
  exact g_iret X hr hlk (by omega) (by omega) dX2_soundOf_6 (⟨rfl, rfl⟩)

set_option maxHeartbeats 1000000 in
set_option maxRecDepth 100000 in
theorem c_X2_wearDown (l : Launch) (D : va_G) (cy : Nat → ClassId) (ad : Nat → Nat) (ρ : Nat → Nat → Int32) (t b : Nat) (ht : t < 6) (hb : isP b) : gMV l yX2_wearDown cX2_wearDown 3 none { frames := 2, cells := 0, slots := 0, locals := 43 } D cy 48 ad (cC ad cy) [.ref (ad (14 + 3 * t)), .ref (ad b)] ρ (fun ρ1 => ρ1 = wdR ρ b t 12) 0 0 := by
  refine gMV_of (ls := [(0, .ref (ad (14 + 3 * t))), (1, .ref (ad b))]) RX2 rfl (by decide +kernel) (Nat.le_of_ble_eq_true rfl) rfl ?_
  intro p e s m args below meth c A X hr hlk hnm
  have hb9 := isP_lt hb
  refine g_iconst X (v := 0) dX2_wearDown_0 (by decide) ?_
  refine g_istore_n X [(2, .int _), (0, .ref _), (1, .ref _)] dX2_wearDown_1 rfl (by decide) rfl ?_
  refine g_ls (ls' := [(0, .ref _), (1, .ref _), (2, .int _)]) [1, 2, 0] rfl ?_
  refine g_loop (fun _ => True) (fun i => wdR ρ b t i) (fun i => [(0, .ref (ad (14 + 3 * t))), (1, .ref (ad b)), (2, .int (nI i))]) (fun _ => 0) (fun _ => 0) 12 0 trivial (by omega) rfl (by funext k j; simp [wdR]) rfl rfl (fun i h0i hi hIi ihi => ?_)
  obtain ⟨ρa, eρa⟩ : ∃ ρz, ρz = wdR ρ b t i := ⟨_, rfl⟩
  rw [← eρa]
  have qt : ∀ j, ρa (16 + 3 * t) j = ρ (16 + 3 * t) j := fun j => by rw [eρa]; simp only [wdR]; split; rw [if_neg (by omega), if_neg (by omega)]; rfl
  have qw : ρa (b + 1) i = ρ (b + 1) i := by rw [eρa]; simp [wdR]
  refine g_iload_n X dX2_wearDown_2 2 rfl rfl ?_
  refine g_bipush X (v := 12) dX2_wearDown_3 (by decide) ?_
  refine g_icmp_geN X i 12 34 (by omega) (by omega) dX2_wearDown_5 (by decide) (fun c_1 => ?_) (fun c_1 => ?_)
  · skip
    exact g_vret X hr hlk (by omega) (by omega) dX2_wearDown_34 (by subst_vars; rw [show i = 12 by omega])
  · skip
    refine g_aload_n X dX2_wearDown_8 0 rfl rfl ?_
    refine g_getr X (14 + 3 * t) (by omega) 1 (by decide) ku_X2 kv_X2 kf_X2_15 rfl (lC_f_times ht) dX2_wearDown_9 ?_
    refine g_iload_n X dX2_wearDown_12 2 rfl rfl ?_
    refine g_ialdN X (16 + 3 * t) i (by omega) (lC_times ht) (by omega) (by decide) dX2_wearDown_13 ?_
    rw [qt]
    refine g_if_le X 28 dX2_wearDown_14 (by decide) (fun c_2 => ?_) (fun c_2 => ?_)
    · skip
      refine g_iincN X i 2 [(2, .int _), (0, .ref _), (1, .ref _)] 2 dX2_wearDown_28 rfl (by decide) rfl ?_
      refine g_goto X 2 dX2_wearDown_31 (by decide) ?_
      refine g_ls (ls' := [(0, .ref _), (1, .ref _), (2, .int _)]) [1, 2, 0] rfl ?_
      exact g_eqv (ihi (by omega) trivial) (rfl) (by subst_vars; funext k j; simp only [up2_e, qw, wdR]; grind) rfl rfl
    · skip
      refine g_aload_n X dX2_wearDown_17 1 rfl rfl ?_
      refine g_iload_n X dX2_wearDown_18 2 rfl rfl ?_
      refine g_aload_n X dX2_wearDown_19 0 rfl rfl ?_
      refine g_getr X (14 + 3 * t) (by omega) 1 (by decide) ku_X2 kv_X2 kf_X2_15 rfl (lC_f_times ht) dX2_wearDown_20 ?_
      refine g_iload_n X dX2_wearDown_23 2 rfl rfl ?_
      refine g_ialdN X (16 + 3 * t) i (by omega) (lC_times ht) (by omega) (by decide) dX2_wearDown_24 ?_
      rw [qt]
      refine g_mcallVv X b (c_X0_wear l D cy ad ρa b i _ hb (by omega)) kl_X2_32 ⟨rfl, rfl, Nat.le_of_ble_eq_true rfl, Nat.le_of_ble_eq_true rfl⟩ (by omega) (lC_P hb) kv_X0 rfl rfl (Nat.le_of_ble_eq_true rfl) dX2_wearDown_25 ⟨Nat.le_of_ble_eq_true rfl, Nat.le_of_ble_eq_true rfl⟩ (fun ρ_3 h_5 => ?_)
      refine g_iincN X i 2 [(2, .int _), (0, .ref _), (1, .ref _)] 2 dX2_wearDown_28 rfl (by decide) rfl ?_
      refine g_goto X 2 dX2_wearDown_31 (by decide) ?_
      refine g_ls (ls' := [(0, .ref _), (1, .ref _), (2, .int _)]) [1, 2, 0] rfl ?_
      exact g_eqv (ihi (by omega) trivial) (rfl) (by subst_vars; funext k j; simp only [up2_e, qw, wdR]; grind) rfl rfl

set_option maxHeartbeats 1000000 in
set_option maxRecDepth 100000 in
theorem c_J9_floorMod_7cf53 (l : Launch) (D : va_G) (cy : Nat → ClassId) (ad : Nat → Nat) (ρ : Nat → Nat → Int32) (d : Nat) (hd : d < 2 ^ 31) : gMI l yJ9_floorMod_7cf53 cJ9_floorMod_7cf53 3 (some .int) { frames := 0, cells := 0, slots := 0, locals := 0 } D cy 48 ad (cC ad cy) [.int (nI d), .int (nI 7)] ρ (fun r ρ1 => r = nI (d % 7) ∧ ρ1 = ρ) 0 0 := by
  refine gMI_of (ls := [(0, .int (nI d)), (1, .int (nI 7))]) RJ9 rfl (by decide +kernel) (Nat.le_of_ble_eq_true rfl) rfl ?_
  intro p e s m args below meth c A X hr hlk hnm
  refine g_iload_n X dJ9_floorMod_7cf53_0 0 rfl rfl ?_
  refine g_iload_n X dJ9_floorMod_7cf53_1 1 rfl rfl ?_
  refine g_irem X dJ9_floorMod_7cf53_2 (by decide) ?_
  rw [show nI d - nI d / nI 7 * nI 7 = nI (d % 7) from pk_rem (d := 7) hd (by omega) (by omega)]
  refine g_istore_n X [(2, .int _), (0, .int _), (1, .int _)] dJ9_floorMod_7cf53_3 rfl (by decide) rfl ?_
  refine g_iload_n X dJ9_floorMod_7cf53_4 1 rfl rfl ?_
  refine g_iload_n X dJ9_floorMod_7cf53_5 2 rfl rfl ?_
  refine g_ixor X dJ9_floorMod_7cf53_6 ?_
  refine g_if_ge X 18 dJ9_floorMod_7cf53_7 (by decide) (fun c_1 => ?_) (fun c_1 => ?_)
  · skip
    refine g_iload_n X dJ9_floorMod_7cf53_18 0 rfl rfl ?_
    exact g_iret X hr hlk (by omega) (by omega) dJ9_floorMod_7cf53_19 (⟨rfl, rfl⟩)
  · exfalso; exact c_1 (xorN hd (by omega))

set_option maxHeartbeats 1000000 in
set_option maxRecDepth 100000 in
theorem c_X3_weekdayOf (l : Launch) (D : va_G) (cy : Nat → ClassId) (ad : Nat → Nat) (ρ : Nat → Nat → Int32) (d : Nat) (hd : d < 2 ^ 31) : gMI l yX3_weekdayOf cX3_weekdayOf 1 (some .int) { frames := 1, cells := 0, slots := 0, locals := 22 } D cy 48 ad (cC ad cy) [.int (nI d)] ρ (fun r ρ1 => r = nI (d % 7) ∧ ρ1 = ρ) 0 0 := by
  refine gMI_of (ls := [(0, .int (nI d))]) RX3 rfl (by decide +kernel) (Nat.le_of_ble_eq_true rfl) rfl ?_
  intro p e s m args below meth c A X hr hlk hnm
  refine g_iload_n X dX3_weekdayOf_0 0 rfl rfl ?_
  refine g_bipush X (v := 7) dX3_weekdayOf_1 (by decide) ?_
  refine g_mcallSi X (c_J9_floorMod_7cf53 l D cy ad ρ d (by omega)) kl_X3_210 ⟨rfl, rfl, Nat.le_of_ble_eq_true rfl, Nat.le_of_ble_eq_true rfl⟩ rfl rfl (Nat.le_of_ble_eq_true rfl) dX3_weekdayOf_3 ⟨Nat.le_of_ble_eq_true rfl, Nat.le_of_ble_eq_true rfl⟩ (fun r_2 ρ_1 h_3 => ?_)
  obtain ⟨er_2, e9⟩ := h_3
  rw [e9, er_2]
  clear e9
  exact g_iret X hr hlk (by omega) (by omega) dX3_weekdayOf_6 (⟨rfl, rfl⟩)
