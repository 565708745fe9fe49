set_option maxHeartbeats 1000000 in
set_option maxRecDepth 100000 in
theorem c_X5_thrown (l : Launch) (D : va_G) (cy : Nat → ClassId) (ad : Nat → Nat) (ρ : Nat → Nat → Int32) (th a : Int32)  : gMI l yX5_thrown cX5_thrown 1 (some .int) { frames := 0, cells := 0, slots := 0, locals := 0 } D cy 18 ad (cM ad cy) [.ref (ad 0)] (rM ρ th a) (fun r μ1 => r = th ∧ μ1 = rM ρ th a) 0 0 := by
  refine gMI_of (ls := [(0, .ref (ad 0))]) RX5 rfl (by decide +kernel) (Nat.le_of_ble_eq_true rfl) rfl ?_
  intro p e s m args below meth c A X hr hlk hnm
  refine g_aload_n X dX5_thrown_0 0 rfl rfl ?_
  refine g_geti X 0 (by omega) 0 (by decide) ku_X5 kv_X5 kf_X5_45 rfl lM_o_thrown dX5_thrown_1 ?_
  rw [rM_thr]
  exact g_iret X hr hlk (by omega) (by omega) dX5_thrown_4 (⟨rfl, rfl⟩)

set_option maxHeartbeats 1000000 in
set_option maxRecDepth 100000 in
theorem c_X5_no (l : Launch) (D : va_G) (cy : Nat → ClassId) (ad : Nat → Nat) (ρ : Nat → Nat → Int32) (th a : Int32) (v : Int32) : gMI l yX5_no cX5_no 2 (some .int) { frames := 0, cells := 0, slots := 0, locals := 0 } D cy 18 ad (cM ad cy) [.ref (ad 0), .int v] (rM ρ th a) (fun r μ1 => r = 0 ∧ μ1 = rM ρ v a) 0 0 := by
  refine gMI_of (ls := [(0, .ref (ad 0)), (1, .int v)]) RX5 rfl (by decide +kernel) (Nat.le_of_ble_eq_true rfl) rfl ?_
  intro p e s m args below meth c A X hr hlk hnm
  refine g_aload_n X dX5_no_0 0 rfl rfl ?_
  refine g_iload_n X dX5_no_1 1 rfl rfl ?_
  refine g_puti X 0 (by omega) 0 (by decide) ku_X5 kv_X5 kf_X5_45 rfl tyX5 tyX5_ok nmX5 rfl (by decide +kernel) lM_o_thrown dX5_no_2 (fun ρ_1 eρ_1 => ?_)
  rw [eρ_1, wM_thr]
  refine g_iconst X (v := 0) dX5_no_5 (by decide) ?_
  exact g_iret X hr hlk (by omega) (by omega) dX5_no_6 (⟨rfl, rfl⟩)

set_option maxHeartbeats 1000000 in
set_option maxRecDepth 100000 in
theorem c_X5_isIn (l : Launch) (D : va_G) (cy : Nat → ClassId) (ad : Nat → Nat) (ρ : Nat → Nat → Int32) (th a : Int32) (x lo hi : Int32) : gMI l yX5_isIn cX5_isIn 3 (some .boolean) { frames := 0, cells := 0, slots := 0, locals := 0 } D cy 18 ad (cM ad cy) [.int x, .int lo, .int hi] (rM ρ th a) (fun r μ1 => r = isI x lo hi ∧ μ1 = rM ρ th a) 0 0 := by
  refine gMI_of (ls := [(0, .int x), (1, .int lo), (2, .int hi)]) RX5 rfl (by decide +kernel) (Nat.le_of_ble_eq_true rfl) rfl ?_
  intro p e s m args below meth c A X hr hlk hnm
  refine g_iload_n X dX5_isIn_0 0 rfl rfl ?_
  refine g_iload_n X dX5_isIn_1 1 rfl rfl ?_
  refine g_icmp_lt X 14 dX5_isIn_2 (by decide) (fun c_1 => ?_) (fun c_1 => ?_)
  · skip
    refine g_iconst X (v := 0) dX5_isIn_14 (by decide) ?_
    exact g_zret X hr hlk (by decide) (by omega) (by omega) dX5_isIn_15 (⟨by unfold isI; rw [if_neg (fun q => q.1 c_1)], rfl⟩)
  · skip
    refine g_iload_n X dX5_isIn_5 0 rfl rfl ?_
    refine g_iload_n X dX5_isIn_6 2 rfl rfl ?_
    refine g_icmp_gt X 14 dX5_isIn_7 (by decide) (fun c_2 => ?_) (fun c_2 => ?_)
    · skip
      refine g_iconst X (v := 0) dX5_isIn_14 (by decide) ?_
      exact g_zret X hr hlk (by decide) (by omega) (by omega) dX5_isIn_15 (⟨by unfold isI; rw [if_neg (fun q => Int32.not_le.mpr c_2 q.2)], rfl⟩)
    · skip
      refine g_iconst X (v := 1) dX5_isIn_10 (by decide) ?_
      refine g_goto X 15 dX5_isIn_11 (by decide) ?_
      exact g_zret X hr hlk (by decide) (by omega) (by omega) dX5_isIn_15 (⟨by unfold isI; rw [if_pos ⟨c_1, Int32.not_lt.mp c_2⟩], rfl⟩)

set_option maxHeartbeats 1000000 in
set_option maxRecDepth 100000 in
theorem c_X5_isTune (l : Launch) (D : va_G) (cy : Nat → ClassId) (ad : Nat → Nat) (ρ : Nat → Nat → Int32) (th a : Int32) (x : Int32) (T : Nat) (hT : ρ 0 5 = nI T) (hTl : T ≤ 6) : gMI l yX5_isTune cX5_isTune 2 (some .boolean) { frames := 1, cells := 0, slots := 0, locals := 22 } D cy 18 ad (cM ad cy) [.ref (ad 0), .int x] (rM ρ th a) (fun r μ1 => r = (if inb x (ρ 0 5) then 1 else 0) ∧ μ1 = rM ρ th a) 0 0 := by
  refine gMI_of (ls := [(0, .ref (ad 0)), (1, .int x)]) RX5 rfl (by decide +kernel) (Nat.le_of_ble_eq_true rfl) rfl ?_
  intro p e s m args below meth c A X hr hlk hnm
  refine g_iload_n X dX5_isTune_0 1 rfl rfl ?_
  refine g_iconst X (v := 0) dX5_isTune_1 (by decide) ?_
  refine g_aload_n X dX5_isTune_2 0 rfl rfl ?_
  refine g_geti X 0 (by omega) 1 (by decide) ku_X5 kv_X5 kf_X5_57 rfl lM_o_tunes dX5_isTune_3 ?_
  rw [rM_tun]
  refine g_iconst X (v := 1) dX5_isTune_6 (by decide) ?_
  refine g_isub X dX5_isTune_7 ?_
  refine g_mcallSi X (c_X5_isIn l D cy ad _ _ _ _ _ _) kl_X5_60 ⟨rfl, rfl, Nat.le_of_ble_eq_true rfl, Nat.le_of_ble_eq_true rfl⟩ rfl rfl (Nat.le_of_ble_eq_true rfl) dX5_isTune_8 ⟨Nat.le_of_ble_eq_true rfl, Nat.le_of_ble_eq_true rfl⟩ (fun r_2 ρ_1 h_3 => ?_)
  obtain ⟨er_2, e9⟩ := h_3
  rw [e9, er_2]
  clear e9
  exact g_zret X hr hlk (by rw [show isI x 0 (ρ 0 5 - 1) = _ from isI_pred hT (by omega)]; split <;> rfl) (by omega) (by omega) dX5_isTune_11 (⟨isI_pred hT (by omega), rfl⟩)

set_option maxHeartbeats 1000000 in
set_option maxRecDepth 100000 in
theorem c_X5_isStreet (l : Launch) (D : va_G) (cy : Nat → ClassId) (ad : Nat → Nat) (ρ : Nat → Nat → Int32) (th a : Int32) (x : Int32) (S : Nat) (hS : ρ 0 6 = nI S) (hSl : S ≤ 8) : gMI l yX5_isStreet cX5_isStreet 2 (some .boolean) { frames := 1, cells := 0, slots := 0, locals := 22 } D cy 18 ad (cM ad cy) [.ref (ad 0), .int x] (rM ρ th a) (fun r μ1 => r = (if inb x (ρ 0 6) then 1 else 0) ∧ μ1 = rM ρ th a) 0 0 := by
  refine gMI_of (ls := [(0, .ref (ad 0)), (1, .int x)]) RX5 rfl (by decide +kernel) (Nat.le_of_ble_eq_true rfl) rfl ?_
  intro p e s m args below meth c A X hr hlk hnm
  refine g_iload_n X dX5_isStreet_0 1 rfl rfl ?_
  refine g_iconst X (v := 0) dX5_isStreet_1 (by decide) ?_
  refine g_aload_n X dX5_isStreet_2 0 rfl rfl ?_
  refine g_geti X 0 (by omega) 4 (by decide) ku_X5 kv_X5 kf_X5_64 rfl lM_o_streets dX5_isStreet_3 ?_
  rw [rM_str]
  refine g_iconst X (v := 1) dX5_isStreet_6 (by decide) ?_
  refine g_isub X dX5_isStreet_7 ?_
  refine g_mcallSi X (c_X5_isIn l D cy ad _ _ _ _ _ _) kl_X5_60 ⟨rfl, rfl, Nat.le_of_ble_eq_true rfl, Nat.le_of_ble_eq_true rfl⟩ rfl rfl (Nat.le_of_ble_eq_true rfl) dX5_isStreet_8 ⟨Nat.le_of_ble_eq_true rfl, Nat.le_of_ble_eq_true rfl⟩ (fun r_2 ρ_1 h_3 => ?_)
  obtain ⟨er_2, e9⟩ := h_3
  rw [e9, er_2]
  clear e9
  exact g_zret X hr hlk (by rw [show isI x 0 (ρ 0 6 - 1) = _ from isI_pred hS (by omega)]; split <;> rfl) (by omega) (by omega) dX5_isStreet_11 (⟨isI_pred hS (by omega), rfl⟩)

set_option maxHeartbeats 1000000 in
set_option maxRecDepth 100000 in
theorem c_X5_isPipe (l : Launch) (D : va_G) (cy : Nat → ClassId) (ad : Nat → Nat) (ρ : Nat → Nat → Int32) (th a : Int32) (x : Int32) : gMI l yX5_isPipe cX5_isPipe 1 (some .boolean) { frames := 1, cells := 0, slots := 0, locals := 22 } D cy 18 ad (cM ad cy) [.int x] (rM ρ th a) (fun r μ1 => r = (if inb x 12 then 1 else 0) ∧ μ1 = rM ρ th a) 0 0 := by
  refine gMI_of (ls := [(0, .int x)]) RX5 rfl (by decide +kernel) (Nat.le_of_ble_eq_true rfl) rfl ?_
  intro p e s m args below meth c A X hr hlk hnm
  refine g_iload_n X dX5_isPipe_0 0 rfl rfl ?_
  refine g_iconst X (v := 0) dX5_isPipe_1 (by decide) ?_
  refine g_bipush X (v := 11) dX5_isPipe_2 (by decide) ?_
  refine g_mcallSi X (c_X5_isIn l D cy ad _ _ _ _ _ _) kl_X5_60 ⟨rfl, rfl, Nat.le_of_ble_eq_true rfl, Nat.le_of_ble_eq_true rfl⟩ rfl rfl (Nat.le_of_ble_eq_true rfl) dX5_isPipe_4 ⟨Nat.le_of_ble_eq_true rfl, Nat.le_of_ble_eq_true rfl⟩ (fun r_2 ρ_1 h_3 => ?_)
  obtain ⟨er_2, e9⟩ := h_3
  rw [e9, er_2]
  clear e9
  exact g_zret X hr hlk (by rw [show isI x 0 11 = _ from isI_12]; split <;> rfl) (by omega) (by omega) dX5_isPipe_7 (⟨isI_12, rfl⟩)

set_option maxHeartbeats 1000000 in
set_option maxRecDepth 100000 in
theorem c_X5_isDays (l : Launch) (D : va_G) (cy : Nat → ClassId) (ad : Nat → Nat) (ρ : Nat → Nat → Int32) (th a : Int32) (x : Int32) : gMI l yX5_isDays cX5_isDays 1 (some .boolean) { frames := 1, cells := 0, slots := 0, locals := 22 } D cy 18 ad (cM ad cy) [.int x] (rM ρ th a) (fun r μ1 => r = (if inl x 127 then 1 else 0) ∧ μ1 = rM ρ th a) 0 0 := by
  refine gMI_of (ls := [(0, .int x)]) RX5 rfl (by decide +kernel) (Nat.le_of_ble_eq_true rfl) rfl ?_
  intro p e s m args below meth c A X hr hlk hnm
  refine g_iload_n X dX5_isDays_0 0 rfl rfl ?_
  refine g_iconst X (v := 0) dX5_isDays_1 (by decide) ?_
  refine g_bipush X (v := 127) dX5_isDays_2 (by decide) ?_
  refine g_mcallSi X (c_X5_isIn l D cy ad _ _ _ _ _ _) kl_X5_60 ⟨rfl, rfl, Nat.le_of_ble_eq_true rfl, Nat.le_of_ble_eq_true rfl⟩ rfl rfl (Nat.le_of_ble_eq_true rfl) dX5_isDays_4 ⟨Nat.le_of_ble_eq_true rfl, Nat.le_of_ble_eq_true rfl⟩ (fun r_2 ρ_1 h_3 => ?_)
  obtain ⟨er_2, e9⟩ := h_3
  rw [e9, er_2]
  clear e9
  exact g_zret X hr hlk (by show narrow .boolean (.int (if inl x 127 then 1 else 0)) = .int (if inl x 127 then 1 else 0); split <;> rfl) (by omega) (by omega) dX5_isDays_7 (⟨rfl, rfl⟩)

set_option maxHeartbeats 1000000 in
set_option maxRecDepth 100000 in
theorem c_X5_soundOf (l : Launch) (D : va_G) (cy : Nat → ClassId) (ad : Nat → Nat) (ρ : Nat → Nat → Int32) (th a : Int32) (t b : Nat) (sp : Int32) (ht : t < 6) (hb : isP b) (hu : tunI ρ t) (h01 : ∀ i, i < 12 → ρ (b + 3) i = 0 ∨ ρ (b + 3) i = 1) : gMI l yX5_soundOf cX5_soundOf 7 (some .int) { frames := 2, cells := 0, slots := 0, locals := 42 } D cy 18 ad (cM ad cy) [.ref (ad 0), .int (nI t), .ref (ad (b + 7)), .int sp] (rM ρ th a) (fun r μ1 => r = sndC ρ b t sp ∧ μ1 = rM ρ th a) 0 0 := by
  refine gMI_of (ls := [(0, .ref (ad 0)), (1, .int (nI t)), (2, .ref (ad (b + 7))), (3, .int sp)]) RX5 rfl (by decide +kernel) (Nat.le_of_ble_eq_true rfl) rfl ?_
  intro p e s m args below meth c A X hr hlk hnm
  have hb9 := isP_lt hb
  have hb6 : b ≤ 6 := by rcases hb with rfl | rfl <;> decide
  obtain ⟨L, hL, hL16, hLn, hLc⟩ := hu
  refine g_iconst X (v := 0) dX5_soundOf_0 (by decide) ?_
  refine g_istore X [(4, .int _), (0, .ref _), (1, .int _), (2, .ref _), (3, .int _)] dX5_soundOf_1 (by decide) rfl ?_
  refine g_iconst X (v := 0) dX5_soundOf_3 (by decide) ?_
  refine g_istore X [(5, .int _), (4, .int _), (0, .ref _), (1, .int _), (2, .ref _), (3, .int _)] dX5_soundOf_4 (by decide) rfl ?_
  refine g_ls (ls' := [(0, .ref _), (1, .int _), (2, .ref _), (3, .int _), (4, .int _), (5, .int _)]) [2, 3, 4, 5, 1, 0] rfl ?_
  refine g_loop (fun _ => True) (fun _ => (rM ρ th a)) (fun i => [(0, .ref (ad 0)), (1, .int (nI t)), (2, .ref (ad (b + 7))), (3, .int sp), (4, .int (sumI (fun k => if ρ (15 + 3 * t) k = sp then 0 else hP ρ b (ix (ρ (15 + 3 * t) k))) i)), (5, .int (nI i))]) (fun _ => 0) (fun _ => 0) L 0 trivial (by omega) rfl rfl rfl rfl (fun i h0i hi hIi ihi => ?_)
  refine g_iload X dX5_soundOf_6 5 rfl ?_
  refine g_aload_n X dX5_soundOf_8 0 rfl rfl ?_
  refine g_getr X 0 (by omega) 2 (by decide) ku_X5 kv_X5 kf_X5_9 rfl lM_o_many dX5_soundOf_9 ?_
  refine g_iload_n X dX5_soundOf_12 1 rfl rfl ?_
  refine g_ialdN X 1 t (by omega) lM_many (by omega) (by decide) dX5_soundOf_13 ?_
  rw [rM_many (by omega)]
  rw [hL]
  refine g_icmp_geN X i L 58 (by omega) (by omega) dX5_soundOf_14 (by decide) (fun c_1 => ?_) (fun c_1 => ?_)
  · skip
    have hiL : i = L := by omega
    refine g_aload_n X dX5_soundOf_58 0 rfl rfl ?_
    refine g_getr X 0 (by omega) 2 (by decide) ku_X5 kv_X5 kf_X5_9 rfl lM_o_many dX5_soundOf_59 ?_
    refine g_iload_n X dX5_soundOf_62 1 rfl rfl ?_
    refine g_ialdN X 1 t (by omega) lM_many (by omega) (by decide) dX5_soundOf_63 ?_
    rw [rM_many (by omega)]
    rw [hL]
    refine g_if_ne X 71 dX5_soundOf_64 (by decide) (fun c_2 => ?_) (fun c_2 => ?_)
    · skip
      have cZ := c_2
      refine g_bipush X (v := 60) dX5_soundOf_71 (by decide) ?_
      refine g_iload X dX5_soundOf_73 4 rfl ?_
      refine g_aload_n X dX5_soundOf_75 0 rfl rfl ?_
      refine g_getr X 0 (by omega) 2 (by decide) ku_X5 kv_X5 kf_X5_9 rfl lM_o_many dX5_soundOf_76 ?_
      refine g_iload_n X dX5_soundOf_79 1 rfl rfl ?_
      refine g_ialdN X 1 t (by omega) lM_many (by omega) (by decide) dX5_soundOf_80 ?_
      rw [rM_many (by omega)]
      rw [hL]
      refine g_idiv X dX5_soundOf_81 cZ ?_
      refine g_isub X dX5_soundOf_82 ?_
      exact g_iret X hr hlk (by omega) (by omega) dX5_soundOf_83 (⟨by rw [snd_eq hL hL16 hLn hLc, if_neg (by rw [hL]; exact cZ), hL, hiL], rfl⟩)
    · skip
      have cZ := c_2
      refine g_iconst X (v := 0) dX5_soundOf_67 (by decide) ?_
      refine g_goto X 83 dX5_soundOf_68 (by decide) ?_
      exact g_iret X hr hlk (by omega) (by omega) dX5_soundOf_83 (⟨by rw [snd_eq hL hL16 hLn hLc, if_pos (by rw [hL]; exact cZ)], rfl⟩)
  · skip
    refine g_aload_n X dX5_soundOf_17 0 rfl rfl ?_
    refine g_getr X 0 (by omega) 3 (by decide) ku_X5 kv_X5 kf_X5_13 rfl lM_o_notes dX5_soundOf_18 ?_
    refine g_bipush X (v := 16) dX5_soundOf_21 (by decide) ?_
    refine g_iload_n X dX5_soundOf_23 1 rfl rfl ?_
    refine g_imul X dX5_soundOf_24 ?_
    rw [show (16 : Int32) * nI t = nI (16 * t) from mulN 16 t]
    refine g_iload X dX5_soundOf_25 5 rfl ?_
    refine g_iadd X dX5_soundOf_27 ?_
    rw [nI_add]
    refine g_ialdN X 2 (16 * t + i) (by omega) lM_notes (by omega) (by decide) dX5_soundOf_28 ?_
    rw [rM_notes (by omega) (by omega)]
    obtain ⟨q, hq, hnq⟩ := hLn i (by omega)
    rw [hnq]
    have exq : ix (nI q) = q := nI_clamp (by omega)
    refine g_istore X [(6, .int _), (0, .ref _), (1, .int _), (2, .ref _), (3, .int _), (4, .int _), (5, .int _)] dX5_soundOf_29 (by decide) rfl ?_
    refine g_iload X dX5_soundOf_31 5 rfl ?_
    refine g_iload X dX5_soundOf_33 0 rfl ?_
    refine g_iload_n X dX5_soundOf_35 4 rfl rfl ?_
    refine g_icmp_ne X 43 dX5_soundOf_36 (by decide) (fun c_3 => ?_) (fun c_3 => ?_)
    · skip
      have cS := c_3
      refine g_aload_n X dX5_soundOf_43 3 rfl rfl ?_
      refine g_iload X dX5_soundOf_44 0 rfl ?_
      refine g_mcallVi X (b + 7) (c_X4_harm l D cy ad _ _ _ b q hb (by omega) (h01 q (by omega))) kl_X5_84 ⟨rfl, rfl, Nat.le_of_ble_eq_true rfl, Nat.le_of_ble_eq_true rfl⟩ (by omega) (lM_P (isQ7 hb)) kv_X4 rfl rfl (Nat.le_of_ble_eq_true rfl) dX5_soundOf_46 ⟨Nat.le_of_ble_eq_true rfl, Nat.le_of_ble_eq_true rfl⟩ (fun r_5 ρ_4 h_6 => ?_)
      obtain ⟨er_5, e9⟩ := h_6
      rw [e9, er_5]
      clear e9
      refine g_iadd X dX5_soundOf_49 ?_
      refine g_istore X [(4, .int _), (6, .int _), (0, .ref _), (1, .int _), (2, .ref _), (3, .int _), (5, .int _)] dX5_soundOf_50 (by decide) rfl ?_
      refine g_iincN X i 5 [(5, .int _), (4, .int _), (6, .int _), (0, .ref _), (1, .int _), (2, .ref _), (3, .int _)] 6 dX5_soundOf_52 rfl (by decide) rfl ?_
      refine g_goto X 6 dX5_soundOf_55 (by decide) ?_
      refine g_ls (ls' := [(0, .ref _), (1, .int _), (2, .ref _), (3, .int _), (4, .int _), (5, .int _)]) [3, 4, 5, 6, 1, 0] rfl ?_
      exact g_eqv (ihi (by omega) trivial) (by simp only [sumI]; rw [hnq, exq]; first | rw [if_pos cS] | rw [if_neg cS]) (rfl) rfl rfl
    · skip
      have cS := c_3
      refine g_iconst X (v := 0) dX5_soundOf_39 (by decide) ?_
      refine g_goto X 49 dX5_soundOf_40 (by decide) ?_
      refine g_iadd X dX5_soundOf_49 ?_
      refine g_istore X [(4, .int _), (6, .int _), (0, .ref _), (1, .int _), (2, .ref _), (3, .int _), (5, .int _)] dX5_soundOf_50 (by decide) rfl ?_
      refine g_iincN X i 5 [(5, .int _), (4, .int _), (6, .int _), (0, .ref _), (1, .int _), (2, .ref _), (3, .int _)] 6 dX5_soundOf_52 rfl (by decide) rfl ?_
      refine g_goto X 6 dX5_soundOf_55 (by decide) ?_
      refine g_ls (ls' := [(0, .ref _), (1, .int _), (2, .ref _), (3, .int _), (4, .int _), (5, .int _)]) [3, 4, 5, 6, 1, 0] rfl ?_
      exact g_eqv (ihi (by omega) trivial) (by simp only [sumI]; rw [hnq, exq]; first | rw [if_pos cS] | rw [if_neg cS]) (rfl) rfl rfl

set_option maxHeartbeats 1000000 in
set_option maxRecDepth 100000 in
theorem c_X5_isPermitted (l : Launch) (D : va_G) (cy : Nat → ClassId) (ad : Nat → Nat) (ρ : Nat → Nat → Int32) (th a : Int32) (z d : Nat) (hz : z < 8) (hd : ρ 0 7 = nI d) (hd31 : d < 2 ^ 31) : gMI l yX5_isPermitted cX5_isPermitted 2 (some .boolean) { frames := 0, cells := 0, slots := 0, locals := 0 } D cy 18 ad (cM ad cy) [.ref (ad 0), .int (nI z)] (rM ρ th a) (fun r μ1 => r = pmF (ρ (32 + 2 * z) 2) (wdF ρ) ∧ μ1 = rM ρ th a) 0 0 := by
  refine gMI_of (ls := [(0, .ref (ad 0)), (1, .int (nI z))]) RX5 rfl (by decide +kernel) (Nat.le_of_ble_eq_true rfl) rfl ?_
  intro p e s m args below meth c A X hr hlk hnm
  have hwd : wdF ρ = nI (d % 7) := by unfold wdF; rw [hd, nI_clamp (by omega)]
  refine g_aload_n X dX5_isPermitted_0 0 rfl rfl ?_
  refine g_getr X 0 (by omega) 6 (by decide) ku_X5 kv_X5 kf_X5_19 rfl lM_o_permits dX5_isPermitted_1 ?_
  refine g_iload_n X dX5_isPermitted_4 1 rfl rfl ?_
  refine g_ialdN X 4 z (by omega) lM_permits (by omega) (by decide) dX5_isPermitted_5 ?_
  rw [rM_per (by omega)]
  refine g_aload_n X dX5_isPermitted_6 0 rfl rfl ?_
  refine g_getr X 0 (by omega) 12 (by decide) ku_X5 kv_X5 kf_X5_38 rfl lM_o_s dX5_isPermitted_7 ?_
  refine g_getiN X (1 + 7) (by omega) 0 (by decide) ku_X4 kv_X4 kn_X5_91 rfl (lM_f_day (isQ7 (Or.inl rfl))) dX5_isPermitted_10 ?_
  rw [rM_day, hd]
  refine g_bipush X (v := 7) dX5_isPermitted_13 (by decide) ?_
  refine g_irem X dX5_isPermitted_15 (by decide) ?_
  rw [remN7 (by omega)]
  refine g_ishr X dX5_isPermitted_16 ?_
  refine g_iconst X (v := 1) dX5_isPermitted_17 (by decide) ?_
  refine g_iand X dX5_isPermitted_18 ?_
  refine g_iconst X (v := 1) dX5_isPermitted_19 (by decide) ?_
  refine g_icmp_ne X 27 dX5_isPermitted_20 (by decide) (fun c_1 => ?_) (fun c_1 => ?_)
  · skip
    refine g_iconst X (v := 0) dX5_isPermitted_27 (by decide) ?_
    exact g_zret X hr hlk (by decide) (by omega) (by omega) dX5_isPermitted_28 (⟨by rw [hwd]; unfold pmF; rw [if_neg c_1], rfl⟩)
  · skip
    refine g_iconst X (v := 1) dX5_isPermitted_23 (by decide) ?_
    refine g_goto X 28 dX5_isPermitted_24 (by decide) ?_
    exact g_zret X hr hlk (by decide) (by omega) (by omega) dX5_isPermitted_28 (⟨by rw [hwd]; unfold pmF; rw [if_pos c_1], rfl⟩)

set_option maxHeartbeats 1000000 in
set_option maxRecDepth 100000 in
theorem c_X5_paysNow (l : Launch) (D : va_G) (cy : Nat → ClassId) (ad : Nat → Nat) (ρ : Nat → Nat → Int32) (th a : Int32) (z t : Nat) (hz : z < 8) (ht : t < 6) (N T S d : Nat) (hI : Inv ρ N T S d) : gMI l yX5_paysNow cX5_paysNow 3 (some .int) { frames := 3, cells := 0, slots := 0, locals := 68 } D cy 18 ad (cM ad cy) [.ref (ad 0), .int (nI z), .int (nI t)] (rM ρ th a) (fun r μ1 => r = pyN ρ z t ∧ μ1 = rM ρ th a) 0 0 := by
  refine gMI_of (ls := [(0, .ref (ad 0)), (1, .int (nI z)), (2, .int (nI t))]) RX5 rfl (by decide +kernel) (Nat.le_of_ble_eq_true rfl) rfl ?_
  intro p e s m args below meth c A X hr hlk hnm
  obtain ⟨hT, hT6, hS, hS8, hd, hdN, hN, hTu, hSt, hPi, hZ, hHd⟩ := id hI
  have hwd : wdF ρ = nI (d % 7) := by unfold wdF; rw [hd, nI_clamp (by omega)]
  obtain ⟨P, h, hP1, hP20, hh, hh31⟩ := Inv_pay hI hz ht
  refine g_aload_n X dX5_paysNow_0 0 rfl rfl ?_
  refine g_getr X 0 (by omega) 5 (by decide) ku_X5 kv_X5 kf_X5_16 rfl lM_o_listeners dX5_paysNow_1 ?_
  refine g_iload_n X dX5_paysNow_4 1 rfl rfl ?_
  refine g_ialdN X 3 z (by omega) lM_listeners (by omega) (by decide) dX5_paysNow_5 ?_
  rw [rM_lis (by omega)]
  refine g_aload_n X dX5_paysNow_6 0 rfl rfl ?_
  refine g_iload_n X dX5_paysNow_7 2 rfl rfl ?_
  refine g_aload_n X dX5_paysNow_8 0 rfl rfl ?_
  refine g_getr X 0 (by omega) 12 (by decide) ku_X5 kv_X5 kf_X5_38 rfl lM_o_s dX5_paysNow_9 ?_
  refine g_iconst X (v := -1) dX5_paysNow_12 (by decide) ?_
  refine g_mcallVi X 0 (c_X5_soundOf l D cy ad _ _ _ t 1 _ (by omega) (Or.inl rfl) (hTu _ (by omega)) (fun i hi => (hPi i hi).2.2.1)) kl_X5_87 ⟨rfl, rfl, Nat.le_of_ble_eq_true rfl, Nat.le_of_ble_eq_true rfl⟩ (by omega) lM_O kv_X5 rfl rfl (Nat.le_of_ble_eq_true rfl) dX5_paysNow_13 ⟨Nat.le_of_ble_eq_true rfl, Nat.le_of_ble_eq_true rfl⟩ (fun r_2 ρ_1 h_3 => ?_)
  obtain ⟨er_2, e9⟩ := h_3
  rw [e9, er_2]
  clear e9
  refine g_imul X dX5_paysNow_16 ?_
  refine g_bipush X (v := 60) dX5_paysNow_17 (by decide) ?_
  refine g_idiv X dX5_paysNow_19 (by decide) ?_
  rw [hP1]
  refine g_bipush X (v := 20) dX5_paysNow_20 (by decide) ?_
  refine g_aload_n X dX5_paysNow_22 0 rfl rfl ?_
  refine g_getr X 0 (by omega) 8 (by decide) ku_X5 kv_X5 kf_X5_25 rfl lM_o_played dX5_paysNow_23 ?_
  refine g_bipush X (v := 6) dX5_paysNow_26 (by decide) ?_
  refine g_iload_n X dX5_paysNow_28 1 rfl rfl ?_
  refine g_imul X dX5_paysNow_29 ?_
  rw [show (6 : Int32) * nI z = nI (6 * z) from mulN 6 z]
  refine g_iload_n X dX5_paysNow_30 2 rfl rfl ?_
  refine g_iadd X dX5_paysNow_31 ?_
  rw [nI_add]
  refine g_ialdN X 6 (6 * z + t) (by omega) lM_played (by omega) (by decide) dX5_paysNow_32 ?_
  rw [rM_ply (by omega) (by omega)]
  rw [hh]
  refine g_mmin X km_X5_48 kt_mmin ki_math kc_mmin ⟨Nat.le_of_ble_eq_true rfl, Nat.le_of_ble_eq_true rfl, by omega, by omega⟩ dX5_paysNow_33 ?_
  refine g_ishr X dX5_paysNow_36 ?_
  exact g_iret X hr hlk (by omega) (by omega) dX5_paysNow_37 (⟨pay_shift hP1 hP20 hh hh31, rfl⟩)

set_option maxHeartbeats 1000000 in
set_option maxRecDepth 100000 in
theorem c_X5_sing (l : Launch) (D : va_G) (cy : Nat → ClassId) (ad : Nat → Nat) (ρ : Nat → Nat → Int32) (th a : Int32) (t b : Nat) (ht : t < 6) (hb : isP b) (hu : tunI ρ t) (hw : ∀ i, i < 12 → ∃ w : Nat, w ≤ 30 ∧ ρ (b + 1) i = nI w) : gMV l yX5_sing cX5_sing 4 none { frames := 2, cells := 0, slots := 0, locals := 42 } D cy 18 ad (cM ad cy) [.ref (ad 0), .int (nI t), .ref (ad (b + 7))] (rM ρ th a) (fun μ1 => μ1 = rM (wdR ρ b t 12) th a) 0 0 := by
  refine gMV_of (ls := [(0, .ref (ad 0)), (1, .int (nI t)), (2, .ref (ad (b + 7)))]) RX5 rfl (by decide +kernel) (Nat.le_of_ble_eq_true rfl) rfl ?_
  intro p e s m args below meth c A X hr hlk hnm
  have hb9 := isP_lt hb
  have hb6 : b ≤ 6 := by rcases hb with rfl | rfl <;> decide
  obtain ⟨L, hL, hL16, hLn, hLc⟩ := hu
  refine g_iconst X (v := 0) dX5_sing_0 (by decide) ?_
  refine g_istore_n X [(3, .int _), (0, .ref _), (1, .int _), (2, .ref _)] dX5_sing_1 rfl (by decide) rfl ?_
  refine g_ls (ls' := [(0, .ref _), (1, .int _), (2, .ref _), (3, .int _)]) [1, 2, 3, 0] rfl ?_
  refine g_loop (fun _ => True) (fun i => rM (sgR ρ b t i) th a) (fun i => [(0, .ref (ad 0)), (1, .int (nI t)), (2, .ref (ad (b + 7))), (3, .int (nI i))]) (fun _ => 0) (fun _ => 0) L 0 trivial (by omega) rfl rfl rfl rfl (fun i h0i hi hIi ihi => ?_)
  obtain ⟨ρa, eρa⟩ : ∃ ρz, ρz = sgR ρ b t i := ⟨_, rfl⟩
  rw [← eρa]
  have qL : ρa (14 + 3 * t) 2 = nI L := by rw [eρa, sgR_out (by omega) (by omega)]; exact hL
  have qn : ∀ k, ρa (15 + 3 * t) k = ρ (15 + 3 * t) k := fun k => by rw [eρa, sgR_out (by omega) (by omega)]
  refine g_iload_n X dX5_sing_2 3 rfl rfl ?_
  refine g_aload_n X dX5_sing_3 0 rfl rfl ?_
  refine g_getr X 0 (by omega) 2 (by decide) ku_X5 kv_X5 kf_X5_9 rfl lM_o_many dX5_sing_4 ?_
  refine g_iload_n X dX5_sing_7 1 rfl rfl ?_
  refine g_ialdN X 1 t (by omega) lM_many (by omega) (by decide) dX5_sing_8 ?_
  rw [rM_many (by omega)]
  rw [qL]
  refine g_icmp_geN X i L 33 (by omega) (by omega) dX5_sing_9 (by decide) (fun c_1 => ?_) (fun c_1 => ?_)
  · skip
    exact g_vret X hr hlk (by omega) (by omega) dX5_sing_33 (by subst_vars; rw [show i = L by omega, sg_wd hL16 hLn hLc hw])
  · skip
    refine g_aload_n X dX5_sing_12 2 rfl rfl ?_
    refine g_aload_n X dX5_sing_13 0 rfl rfl ?_
    refine g_getr X 0 (by omega) 3 (by decide) ku_X5 kv_X5 kf_X5_13 rfl lM_o_notes dX5_sing_14 ?_
    refine g_bipush X (v := 16) dX5_sing_17 (by decide) ?_
    refine g_iload_n X dX5_sing_19 1 rfl rfl ?_
    refine g_imul X dX5_sing_20 ?_
    rw [show (16 : Int32) * nI t = nI (16 * t) from mulN 16 t]
    refine g_iload_n X dX5_sing_21 3 rfl rfl ?_
    refine g_iadd X dX5_sing_22 ?_
    rw [nI_add]
    refine g_ialdN X 2 (16 * t + i) (by omega) lM_notes (by omega) (by decide) dX5_sing_23 ?_
    rw [rM_notes (by omega) (by omega)]
    rw [qn]
    obtain ⟨q, hq, hnq⟩ := hLn i (by omega)
    rw [hnq]
    have exq : ix (nI q) = q := nI_clamp (by omega)
    refine g_mcallVv X (b + 7) (c_X4_sing l D cy ad _ _ _ b q hb (by omega)) kl_X5_94 ⟨rfl, rfl, Nat.le_of_ble_eq_true rfl, Nat.le_of_ble_eq_true rfl⟩ (by omega) (lM_P (isQ7 hb)) kv_X4 rfl rfl (Nat.le_of_ble_eq_true rfl) dX5_sing_24 ⟨Nat.le_of_ble_eq_true rfl, Nat.le_of_ble_eq_true rfl⟩ (fun ρ_2 h_4 => ?_)
    refine g_iincN X i 3 [(3, .int _), (0, .ref _), (1, .int _), (2, .ref _)] 3 dX5_sing_27 rfl (by decide) rfl ?_
    refine g_goto X 2 dX5_sing_30 (by decide) ?_
    refine g_ls (ls' := [(0, .ref _), (1, .int _), (2, .ref _), (3, .int _)]) [1, 2, 3, 0] rfl ?_
    exact g_eqv (ihi (by omega) trivial) (rfl) (by subst_vars; simp only [sgR]; rw [hnq, exq]) rfl rfl
