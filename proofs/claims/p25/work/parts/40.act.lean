/-! act -/
theorem pt_ge {K : Nat} {x : Int32} (h : (K = 0 ∧ x = -1) ∨ ∃ t, t < K ∧ x = nI t) (hx : ¬ x < 0) : ∃ t, t < K ∧ x = nI t := by
  rcases h with ⟨_, rfl⟩ | h
  · exact absurd (by decide) hx
  · exact h
theorem by_dec : ∀ b : Fin 241, (¬ nI b.val - 120 < -120 ∧ nI b.val - 120 ≤ 120) ∧ ¬ (nI b.val - 120) / 9 < -120 ∧ (nI b.val - 120) / 9 ≤ 120 := by decide +kernel
theorem kp_dec : ∀ k : Fin 5, nI k.val - nI (k.val + 1) < 0 := by decide +kernel
theorem kp_le {k i : Nat} (hk : k < 5) (hi : i ≤ k + 1) (h : ¬ nI k - nI i < 0) : i ≤ k := by
  rcases Nat.lt_or_ge k i with q | q
  · have : i = k + 1 := by omega
    subst this
    exact absurd (kp_dec ⟨k, hk⟩) h
  · exact q
theorem sub1_kp (k i : Nat) : nI k - nI i + -1 = nI k - nI (i + 1) := by
  rw [← nI_1]
  simp only [Int32.sub_eq_add_neg, Int32.neg_add]
  rw [Int32.add_assoc]
theorem Ln_cg {ρ σ : gSt} {T : Nat} {Ln : Nat → Nat} (h : LnOK ρ T Ln) (e : ∀ t, t < T → σ (14 + 3 * t) = ρ (14 + 3 * t)) : LnOK σ T Ln := fun t ht => by rw [e t ht]; exact h t ht
def gPw (D : va_G) (cy : Nat → ClassId) (n : Nat) (ad : Nat → Nat) (cz : Nat → (Nat → Int32) → va_E) (ρ : gSt) (argv : List Value) (sz : Nat) : Array Value → State → Prop := va_Pc argv (fun U => U.heap.size = sz ∧ va_P D vwCl (gWl n ad cz ρ) U.heap ∧ va_K D vwCl (gT cy) U ∧ gInj n ad ∧ gNst U ∧ gEnv U (gA n ad sz) ∧ zAO U)
theorem gPw_blind {D : va_G} {cy : Nat → ClassId} {n : Nat} {ad : Nat → Nat} {cz : Nat → (Nat → Int32) → va_E} {ρ : gSt} {argv : List Value} {sz : Nat} : FrameBlind (gPw D cy n ad cz ρ argv sz) := fun a U g mk q => by
  obtain ⟨q0, q1, q2, q3, q4, q6, q5, q7⟩ := q
  exact ⟨q0, q1, q2, va_K.moved (u := U) (U := U.calling g mk a) (Vm.Alike.refl U.vm) q3, q4, gNst_same (u := U) (U := U.calling g mk a) rfl q6, gEnv_same (U := U) (V := U.calling g mk a) rfl rfl q5, zAO.moved (u := U) (U := U.calling g mk a) (Vm.Alike.refl U.vm) q7⟩
set_option maxHeartbeats 4000000 in
set_option maxRecDepth 100000 in
theorem c_L_act (l : Launch) (hl0 : l.stackTraces = false) (D : va_G) (cy : Nat → ClassId) (ad : Nat → Nat) (ρ : gSt) (S T N d : Nat) (Ln : Nat → Nat) (hX : Inx ρ N T S d) (hLn : LnOK ρ T Ln) (hN : N + 5 ≤ 600) (x : Int32) (sz : Nat) : Met l yL_act (Cond.code yL_act cL_act 8 (some .boolean) :: wAll) { frames := 8, cells := 20, slots := 100, locals := 134 } (gPw D cy (48 + (8 + S + T)) ad (cW ad cy S T Ln) (wR S ρ ρ) [.ref (ad 0), .ref (ad 48), .int x] sz) (va_Qi (actP ad ρ N d) (actB D cy (gA (48 + (8 + S + T)) ad sz)) (gA (48 + (8 + S + T)) ad sz)) 20 100 (gA (48 + (8 + S + T)) ad sz) := by
  refine va_MetF (cc := cL_act) (maxL := 8) (ret := some .boolean) (by decide +kernel) rfl ?_
  intro p e s m args below meth c s₁ B hml hv
  obtain ⟨rfl, hsz, hP, hK, hi, hN9, hE, hZ⟩ := hv
  have hts := atoms_spec (ws := Cond.code yL_act cL_act 8 (some .boolean) :: wAll) B.pre
  have hfc := findClass_of_methodNamed B.named
  have hl := lv_entry [Value.ref (ad 0), .ref (ad 48), .int x] (n := 8) (Nat.le_of_ble_eq_true rfl)
  rw [lg_entry_eq]
  subst hsz
  have X : gX p m c cL_act 8 s ([Value.ref (ad 0), .ref (ad 48), .int x] : List Value).toArray (Cond.code yL_act cL_act 8 (some .boolean) :: wAll) RL D cy (gA (48 + (8 + S + T)) ad s.heap.size) := ⟨⟨B.exec, B.bytes, hml, hfc, hts⟩, hK, fun q h => Or.inr h, fun w h => List.mem_cons_of_mem _ h, hN9⟩
  refine (?_ : GW p l e { frames := 8, cells := 20, slots := 100, locals := 134 } s m ([Value.ref (ad 0), .ref (ad 48), .int x] : List Value).toArray below meth c (MQ below (va_Qi (actP ad ρ N d) (actB D cy (gA (48 + (8 + S + T)) ad s.heap.size)) (gA (48 + (8 + S + T)) ad s.heap.size)) ([Value.ref (ad 0), .ref (ad 48), .int x] : List Value).toArray s 20 100 (gA (48 + (8 + S + T)) ad s.heap.size)) 8 D (gA (48 + (8 + S + T)) ad s.heap.size) (48 + (8 + S + T)) ad (cW ad cy S T Ln) (wR S ρ ρ) 0 0 0 [(0, .ref (ad 0)), (1, .ref (ad 48)), (2, .int x)] []) s.heap [] _ hP (gD_of hi (fun k hk => Or.inl ⟨k, hk, rfl⟩)) va_S.rf hl
  have hr := B.returns
  have hlk := B.notSynchronized
  clear hP hi hl hts hml hfc hN9
  obtain ⟨hT, hT6, hS, hS8, hd, hdN, hN6, hTu0, hSt, hPi, hZ9, hHd⟩ := id hX.1
  obtain ⟨_, g2, g3, ⟨c0, hc0, ec0⟩, g5, g6⟩ := id hX
  have hI := hX.1
  refine g_F0 (fa := fun _ => 0) (fz := fun _ _ => .inr (0, [])) (φ := z0) ?_
  refine g_joinP 23 (fun v9 : Int32 => (T = 0 ∧ v9 = -1) ∨ ∃ t, t < T ∧ v9 = nI t) (fun kj_1 => ?_) (fun xt hxt => ?_)
  · skip
    refine g_aload_n X dL_act_0 1 rfl rfl ?_
    refine g_getr X (0 + 48 + 0) (by show 0 + 48 + 0 < 0 + (48 + (8 + S + T)); omega) 7 (by decide) ku_X4 kv_X4 kf_L_9 rfl (gSub_fr (off := 0 + 48) sub_FS lS_tunes (by omega) (by omega)) dL_act_1 ?_
    refine g_alen (t0 := 4) X (0 + 48 + 5) (by show 0 + 48 + 5 < 0 + (48 + (8 + S + T)); omega) (gAR.ln (gSub_ar (off := 0 + 48) (sub_FS (fa := fun _ => 0) (ad := ad)) lS_ts (by omega) (fun i hi => by omega))) rfl dL_act_4 ?_
    refine g_if_ne X 12 dL_act_5 (by decide) (fun c_2 => ?_) (fun c_2 => ?_)
    · skip
      have hT0 : T ≠ 0 := fun h => c_2 (by rw [h]; rfl)
      refine g_iload_n X dL_act_12 2 rfl rfl ?_
      refine g_iconst X (v := 3) dL_act_13 (by decide) ?_
      refine g_ishr X dL_act_14 ?_
      refine g_aload_n X dL_act_15 1 rfl rfl ?_
      refine g_getr X (0 + 48 + 0) (by show 0 + 48 + 0 < 0 + (48 + (8 + S + T)); omega) 7 (by decide) ku_X4 kv_X4 kf_L_9 rfl (gSub_fr (off := 0 + 48) sub_FS lS_tunes (by omega) (by omega)) dL_act_16 ?_
      refine g_alen (t0 := 4) X (0 + 48 + 5) (by show 0 + 48 + 5 < 0 + (48 + (8 + S + T)); omega) (gAR.ln (gSub_ar (off := 0 + 48) (sub_FS (fa := fun _ => 0) (ad := ad)) lS_ts (by omega) (fun i hi => by omega))) rfl dL_act_19 ?_
      refine g_below X T (by omega) (by omega) kl_L_15 ⟨Nat.le_of_ble_eq_true rfl, Nat.le_of_ble_eq_true rfl⟩ (Nat.le_of_ble_eq_true rfl) dL_act_20 ⟨by show _ ≤ 20; omega, by show _ ≤ 100; omega⟩ (fun kt hkt => ?_)
      exact kj_1 _ (Or.inr ⟨kt, hkt, rfl⟩)
    · skip
      have hT0 : T = 0 := (nI_z (by omega)).mp c_2
      refine g_iconst X (v := -1) dL_act_8 (by decide) ?_
      refine g_goto X 23 dL_act_9 (by decide) ?_
      exact kj_1 _ (Or.inl ⟨hT0, rfl⟩)
  refine g_istore_n X [(3, .int _), (0, .ref _), (1, .ref _), (2, .int _)] dL_act_23 rfl (by decide) rfl ?_
  refine g_joinP 47 (fun v9 : Int32 => (S = 0 ∧ v9 = -1) ∨ ∃ t, t < S ∧ v9 = nI t) (fun kj_3 => ?_) (fun xz hxz => ?_)
  · skip
    refine g_aload_n X dL_act_24 2 rfl rfl ?_
    refine g_getr X (0 + 48 + 0) (by show 0 + 48 + 0 < 0 + (48 + (8 + S + T)); omega) 8 (by decide) ku_X4 kv_X4 kf_L_21 rfl (gSub_fr (off := 0 + 48) sub_FS lS_streets (by omega) (by omega)) dL_act_25 ?_
    refine g_alen (t0 := 4) X (0 + 48 + 6) (by show 0 + 48 + 6 < 0 + (48 + (8 + S + T)); omega) (gAR.ln (gSub_ar (off := 0 + 48) (sub_FS (fa := fun _ => 0) (ad := ad)) lS_ss (by omega) (fun i hi => by omega))) rfl dL_act_28 ?_
    refine g_if_ne X 36 dL_act_29 (by decide) (fun c_4 => ?_) (fun c_4 => ?_)
    · skip
      have hS0 : S ≠ 0 := fun h => c_4 (by rw [h]; rfl)
      refine g_iload_n X dL_act_36 3 rfl rfl ?_
      refine g_iconst X (v := 5) dL_act_37 (by decide) ?_
      refine g_ishr X dL_act_38 ?_
      refine g_aload_n X dL_act_39 2 rfl rfl ?_
      refine g_getr X (0 + 48 + 0) (by show 0 + 48 + 0 < 0 + (48 + (8 + S + T)); omega) 8 (by decide) ku_X4 kv_X4 kf_L_21 rfl (gSub_fr (off := 0 + 48) sub_FS lS_streets (by omega) (by omega)) dL_act_40 ?_
      refine g_alen (t0 := 4) X (0 + 48 + 6) (by show 0 + 48 + 6 < 0 + (48 + (8 + S + T)); omega) (gAR.ln (gSub_ar (off := 0 + 48) (sub_FS (fa := fun _ => 0) (ad := ad)) lS_ss (by omega) (fun i hi => by omega))) rfl dL_act_43 ?_
      refine g_below X S (by omega) (by omega) kl_L_15 ⟨Nat.le_of_ble_eq_true rfl, Nat.le_of_ble_eq_true rfl⟩ (Nat.le_of_ble_eq_true rfl) dL_act_44 ⟨by show _ ≤ 20; omega, by show _ ≤ 100; omega⟩ (fun kz hkz => ?_)
      exact kj_3 _ (Or.inr ⟨kz, hkz, rfl⟩)
    · skip
      have hS0 : S = 0 := (nI_z (by omega)).mp c_4
      refine g_iconst X (v := -1) dL_act_32 (by decide) ?_
      refine g_goto X 47 dL_act_33 (by decide) ?_
      exact kj_3 _ (Or.inl ⟨hS0, rfl⟩)
  refine g_istore X [(4, .int _), (3, .int _), (0, .ref _), (1, .ref _), (2, .int _)] dL_act_47 (by decide) rfl ?_
  refine g_iload_n X dL_act_49 4 rfl rfl ?_
  refine g_iconst X (v := 4) dL_act_50 (by decide) ?_
  refine g_ishr X dL_act_51 ?_
  refine g_bipush X (v := 12) dL_act_52 (by decide) ?_
  refine g_below X 12 (by omega) (by omega) kl_L_15 ⟨Nat.le_of_ble_eq_true rfl, Nat.le_of_ble_eq_true rfl⟩ (Nat.le_of_ble_eq_true rfl) dL_act_54 ⟨by show _ ≤ 20; omega, by show _ ≤ 100; omega⟩ (fun j0 hj0 => ?_)
  have hj0 : j0 < 12 := hj0
  refine g_istore X [(5, .int _), (4, .int _), (3, .int _), (0, .ref _), (1, .ref _), (2, .int _)] dL_act_57 (by decide) rfl ?_
  refine g_iload_n X dL_act_59 5 rfl rfl ?_
  refine g_bipush X (v := 13) dL_act_60 (by decide) ?_
  refine g_below X 13 (by omega) (by omega) kl_L_15 ⟨Nat.le_of_ble_eq_true rfl, Nat.le_of_ble_eq_true rfl⟩ (Nat.le_of_ble_eq_true rfl) dL_act_62 ⟨by show _ ≤ 20; omega, by show _ ≤ 100; omega⟩ (fun cc hcc => ?_)
  rcases (show cc = 0 ∨ cc = 1 ∨ cc = 2 ∨ cc = 3 ∨ cc = 4 ∨ cc = 5 ∨ cc = 6 ∨ cc = 7 ∨ cc = 8 ∨ cc = 9 ∨ cc = 10 ∨ cc = 11 ∨ cc = 12 by omega) with rfl | rfl | rfl | rfl | rfl | rfl | rfl | rfl | rfl | rfl | rfl | rfl | rfl
  · skip
    refine g_tableIn X 120 dL_act_65 (by decide) (by decide) rfl (by decide) ?_
    refine g_aload_n X dL_act_120 4 rfl rfl ?_
    refine g_getr X (0 + 48 + 0) (by show 0 + 48 + 0 < 0 + (48 + (8 + S + T)); omega) 7 (by decide) ku_X4 kv_X4 kf_L_9 rfl (gSub_fr (off := 0 + 48) sub_FS lS_tunes (by omega) (by omega)) dL_act_121 ?_
    refine g_alen (t0 := 4) X (0 + 48 + 5) (by show 0 + 48 + 5 < 0 + (48 + (8 + S + T)); omega) (gAR.ln (gSub_ar (off := 0 + 48) (sub_FS (fa := fun _ => 0) (ad := ad)) lS_ts (by omega) (fun i hi => by omega))) rfl dL_act_124 ?_
    refine g_bipush X (v := 6) dL_act_125 (by decide) ?_
    refine g_icmp_neN X T 6 132 (by omega) (by omega) dL_act_127 (by decide) (fun c_5 => ?_) (fun c_5 => ?_)
    · skip
      refine g_0F ?_
      refine g_ls (ls' := [(0, .ref _), (1, .ref _)]) [3, 4] rfl ?_
      exact act_bar X hl0 hE hZ hr hlk hX hLn hN (by omega)
    · skip
      refine g_iconst X (v := 1) dL_act_130 (by decide) ?_
      refine g_0F ?_
      exact g_acret X hr hlk (by omega) (by omega) dL_act_131 rfl rfl (Inx_up hX (by omega) hN) hLn Act_rf
  · skip
    refine g_tableIn X 166 dL_act_65 (by decide) (by decide) rfl (by decide) ?_
    refine g_iload_n X dL_act_166 2 rfl rfl ?_
    refine g_if_lt X 182 dL_act_167 (by decide) (fun c_6 => ?_) (fun c_6 => ?_)
    · skip
      refine g_iconst X (v := 1) dL_act_182 (by decide) ?_
      refine g_0F ?_
      exact g_acret X hr hlk (by omega) (by omega) dL_act_183 rfl rfl (Inx_up hX (by omega) hN) hLn Act_rf
    · skip
      obtain ⟨t, ht, rfl⟩ := pt_ge hxt c_6
      have hLt := (hLn t ht).2
      refine g_aload_n X dL_act_170 4 rfl rfl ?_
      refine g_getr X (0 + 48 + 0) (by show 0 + 48 + 0 < 0 + (48 + (8 + S + T)); omega) 7 (by decide) ku_X4 kv_X4 kf_L_9 rfl (gSub_fr (off := 0 + 48) sub_FS lS_tunes (by omega) (by omega)) dL_act_171 ?_
      refine g_iload_n X dL_act_174 2 rfl rfl ?_
      refine g_aaldA X (0 + 48 + 5) t (by show 0 + 48 + 5 < 0 + (48 + (8 + S + T)); omega) (gSub_ar (off := 0 + 48) sub_FS lS_ts (by omega) (fun i hi => by omega)) rfl (by omega) (by omega) dL_act_175 ?_
      rw [jF_48]
      refine g_alenS (F := 0) X (8 + S + t) lS_tu (by omega) dL_act_176 ?_
      refine g_bipush X (v := 16) dL_act_177 (by decide) ?_
      refine g_icmp_neN X (Ln t) 16 184 (by omega) (by omega) dL_act_179 (by decide) (fun c_7 => ?_) (fun c_7 => ?_)
      · skip
        refine g_0F ?_
        refine g_ls (ls' := [(0, .ref _), (1, .ref _), (2, .int _), (3, .int _), (5, .int _)]) [3, 4, 5, 2, 0] rfl ?_
        exact act_pin X hl0 hE hZ hr hlk hX hLn hN ht (by omega) hj0
      · skip
        refine g_iconst X (v := 1) dL_act_182 (by decide) ?_
        refine g_0F ?_
        exact g_acret X hr hlk (by omega) (by omega) dL_act_183 rfl rfl (Inx_up hX (by omega) hN) hLn Act_rf
  · skip
    refine g_tableIn X 166 dL_act_65 (by decide) (by decide) rfl (by decide) ?_
    refine g_iload_n X dL_act_166 2 rfl rfl ?_
    refine g_if_lt X 182 dL_act_167 (by decide) (fun c_8 => ?_) (fun c_8 => ?_)
    · skip
      refine g_iconst X (v := 1) dL_act_182 (by decide) ?_
      refine g_0F ?_
      exact g_acret X hr hlk (by omega) (by omega) dL_act_183 rfl rfl (Inx_up hX (by omega) hN) hLn Act_rf
    · skip
      obtain ⟨t, ht, rfl⟩ := pt_ge hxt c_8
      have hLt := (hLn t ht).2
      refine g_aload_n X dL_act_170 4 rfl rfl ?_
      refine g_getr X (0 + 48 + 0) (by show 0 + 48 + 0 < 0 + (48 + (8 + S + T)); omega) 7 (by decide) ku_X4 kv_X4 kf_L_9 rfl (gSub_fr (off := 0 + 48) sub_FS lS_tunes (by omega) (by omega)) dL_act_171 ?_
      refine g_iload_n X dL_act_174 2 rfl rfl ?_
      refine g_aaldA X (0 + 48 + 5) t (by show 0 + 48 + 5 < 0 + (48 + (8 + S + T)); omega) (gSub_ar (off := 0 + 48) sub_FS lS_ts (by omega) (fun i hi => by omega)) rfl (by omega) (by omega) dL_act_175 ?_
      rw [jF_48]
      refine g_alenS (F := 0) X (8 + S + t) lS_tu (by omega) dL_act_176 ?_
      refine g_bipush X (v := 16) dL_act_177 (by decide) ?_
      refine g_icmp_neN X (Ln t) 16 184 (by omega) (by omega) dL_act_179 (by decide) (fun c_9 => ?_) (fun c_9 => ?_)
      · skip
        refine g_0F ?_
        refine g_ls (ls' := [(0, .ref _), (1, .ref _), (2, .int _), (3, .int _), (5, .int _)]) [3, 4, 5, 2, 0] rfl ?_
        exact act_pin X hl0 hE hZ hr hlk hX hLn hN ht (by omega) hj0
      · skip
        refine g_iconst X (v := 1) dL_act_182 (by decide) ?_
        refine g_0F ?_
        exact g_acret X hr hlk (by omega) (by omega) dL_act_183 rfl rfl (Inx_up hX (by omega) hN) hLn Act_rf
  · skip
    refine g_tableIn X 166 dL_act_65 (by decide) (by decide) rfl (by decide) ?_
    refine g_iload_n X dL_act_166 2 rfl rfl ?_
    refine g_if_lt X 182 dL_act_167 (by decide) (fun c_10 => ?_) (fun c_10 => ?_)
    · skip
      refine g_iconst X (v := 1) dL_act_182 (by decide) ?_
      refine g_0F ?_
      exact g_acret X hr hlk (by omega) (by omega) dL_act_183 rfl rfl (Inx_up hX (by omega) hN) hLn Act_rf
    · skip
      obtain ⟨t, ht, rfl⟩ := pt_ge hxt c_10
      have hLt := (hLn t ht).2
      refine g_aload_n X dL_act_170 4 rfl rfl ?_
      refine g_getr X (0 + 48 + 0) (by show 0 + 48 + 0 < 0 + (48 + (8 + S + T)); omega) 7 (by decide) ku_X4 kv_X4 kf_L_9 rfl (gSub_fr (off := 0 + 48) sub_FS lS_tunes (by omega) (by omega)) dL_act_171 ?_
      refine g_iload_n X dL_act_174 2 rfl rfl ?_
      refine g_aaldA X (0 + 48 + 5) t (by show 0 + 48 + 5 < 0 + (48 + (8 + S + T)); omega) (gSub_ar (off := 0 + 48) sub_FS lS_ts (by omega) (fun i hi => by omega)) rfl (by omega) (by omega) dL_act_175 ?_
      rw [jF_48]
      refine g_alenS (F := 0) X (8 + S + t) lS_tu (by omega) dL_act_176 ?_
      refine g_bipush X (v := 16) dL_act_177 (by decide) ?_
      refine g_icmp_neN X (Ln t) 16 184 (by omega) (by omega) dL_act_179 (by decide) (fun c_11 => ?_) (fun c_11 => ?_)
      · skip
        refine g_0F ?_
        refine g_ls (ls' := [(0, .ref _), (1, .ref _), (2, .int _), (3, .int _), (5, .int _)]) [3, 4, 5, 2, 0] rfl ?_
        exact act_pin X hl0 hE hZ hr hlk hX hLn hN ht (by omega) hj0
      · skip
        refine g_iconst X (v := 1) dL_act_182 (by decide) ?_
        refine g_0F ?_
        exact g_acret X hr hlk (by omega) (by omega) dL_act_183 rfl rfl (Inx_up hX (by omega) hN) hLn Act_rf
  · skip
    refine g_tableIn X 269 dL_act_65 (by decide) (by decide) rfl (by decide) ?_
    refine g_aload_n X dL_act_269 4 rfl rfl ?_
    refine g_getr X (0 + 48 + 0) (by show 0 + 48 + 0 < 0 + (48 + (8 + S + T)); omega) 8 (by decide) ku_X4 kv_X4 kf_L_21 rfl (gSub_fr (off := 0 + 48) sub_FS lS_streets (by omega) (by omega)) dL_act_270 ?_
    refine g_alen (t0 := 4) X (0 + 48 + 6) (by show 0 + 48 + 6 < 0 + (48 + (8 + S + T)); omega) (gAR.ln (gSub_ar (off := 0 + 48) (sub_FS (fa := fun _ => 0) (ad := ad)) lS_ss (by omega) (fun i hi => by omega))) rfl dL_act_273 ?_
    refine g_bipush X (v := 8) dL_act_274 (by decide) ?_
    refine g_icmp_neN X S 8 281 (by omega) (by omega) dL_act_276 (by decide) (fun c_12 => ?_) (fun c_12 => ?_)
    · skip
      refine g_0F ?_
      refine g_ls (ls' := [(0, .ref _), (1, .ref _), (2, .int _)]) [3, 4, 5] rfl ?_
      exact act_str X hl0 hE hZ hr hlk hX hLn hN (by omega)
    · skip
      refine g_iconst X (v := 1) dL_act_279 (by decide) ?_
      refine g_0F ?_
      exact g_acret X hr hlk (by omega) (by omega) dL_act_280 rfl rfl (Inx_up hX (by omega) hN) hLn Act_rf
  · skip
    refine g_tableIn X 395 dL_act_65 (by decide) (by decide) rfl (by decide) ?_
    refine g_iload X dL_act_395 1 rfl ?_
    refine g_if_ge X 402 dL_act_397 (by decide) (fun c_13 => ?_) (fun c_13 => ?_)
    · skip
      obtain ⟨z, hz, rfl⟩ := pt_ge hxz (Int32.not_lt.mpr c_13)
      refine g_aload_n X dL_act_402 4 rfl rfl ?_
      refine g_getr X (0 + 48 + 0) (by show 0 + 48 + 0 < 0 + (48 + (8 + S + T)); omega) 8 (by decide) ku_X4 kv_X4 kf_L_21 rfl (gSub_fr (off := 0 + 48) sub_FS lS_streets (by omega) (by omega)) dL_act_403 ?_
      refine g_iload X dL_act_406 1 rfl ?_
      refine g_aaldA X (0 + 48 + 6) z (by show 0 + 48 + 6 < 0 + (48 + (8 + S + T)); omega) (gSub_ar (off := 0 + 48) sub_FS lS_ss (by omega) (fun i hi => by omega)) rfl (by omega) (by omega) dL_act_408 ?_
      rw [jF_48]
      refine g_iconst X (v := 1) dL_act_409 (by decide) ?_
      refine g_ialdS (F := 0) X (8 + z) 1 (lS_st (by omega)) (by omega) (by omega) (by decide) dL_act_410 ?_
      rw [rF, rS_s1 (by omega)]
      refine g_istore X [(6, .int _), (5, .int _), (4, .int _), (3, .int _), (0, .ref _), (1, .ref _), (2, .int _)] dL_act_411 (by decide) rfl ?_
      refine g_aload_n X dL_act_413 5 rfl rfl ?_
      refine g_getr X (0 + 48 + 0) (by show 0 + 48 + 0 < 0 + (48 + (8 + S + T)); omega) 8 (by decide) ku_X4 kv_X4 kf_L_21 rfl (gSub_fr (off := 0 + 48) sub_FS lS_streets (by omega) (by omega)) dL_act_414 ?_
      refine g_iload X dL_act_417 2 rfl ?_
      refine g_aaldA X (0 + 48 + 6) z (by show 0 + 48 + 6 < 0 + (48 + (8 + S + T)); omega) (gSub_ar (off := 0 + 48) sub_FS lS_ss (by omega) (fun i hi => by omega)) rfl (by omega) (by omega) dL_act_419 ?_
      rw [jF_48]
      refine g_iconst X (v := 1) dL_act_420 (by decide) ?_
      refine g_iload_n X dL_act_421 6 rfl rfl ?_
      refine g_bipush X (v := 6) dL_act_422 (by decide) ?_
      refine g_ishr X dL_act_424 ?_
      refine g_bipush X (v := 127) dL_act_425 (by decide) ?_
      refine g_iand X dL_act_427 ?_
      obtain ⟨w, hw, ew⟩ := and127 (x >>> (6 &&& 31))
      rw [ew]
      refine g_iastS (F := 0) X (8 + z) 1 (lS_st (by omega)) (by omega) (by omega) (by decide) dL_act_428 (fun ρ_14 eρ_14 => ?_)
      obtain ⟨σ_15, sσ_15, rfl⟩ := wXF eρ_14 (wS_s1 (by omega))
      refine g_aload_n X dL_act_429 4 rfl rfl ?_
      refine g_iload X dL_act_430 2 rfl ?_
      refine g_aload_n X dL_act_432 5 rfl rfl ?_
      refine g_getr X (0 + 48 + 0) (by show 0 + 48 + 0 < 0 + (48 + (8 + S + T)); omega) 8 (by decide) ku_X4 kv_X4 kf_L_21 rfl (gSub_fr (off := 0 + 48) sub_FS lS_streets (by omega) (by omega)) dL_act_433 ?_
      refine g_iload X dL_act_436 2 rfl ?_
      refine g_aaldA X (0 + 48 + 6) z (by show 0 + 48 + 6 < 0 + (48 + (8 + S + T)); omega) (gSub_ar (off := 0 + 48) sub_FS lS_ss (by omega) (fun i hi => by omega)) rfl (by omega) (by omega) dL_act_438 ?_
      rw [jF_48]
      refine g_iconst X (v := 1) dL_act_439 (by decide) ?_
      refine g_ialdS (F := 0) X (8 + z) 1 (lS_st (by omega)) (by omega) (by omega) (by decide) dL_act_440 ?_
      rw [rF, rS_s1 (by omega)]
      rw [show σ_15 (32 + 2 * z) 2 = nI w by rw [sσ_15]; exact up2_s]
      refine g_yc (F := 0) X hE (gYI_2 (c_X3_permit l hl0 D cy ad ρ N T S d hI (nI z) (nI w)) (per_ok hS hS8 hz hw)) kl_L_46 ⟨rfl, rfl, Nat.le_of_ble_eq_true rfl, Nat.le_of_ble_eq_true rfl⟩ rfl rfl (Nat.le_of_ble_eq_true rfl) dL_act_441 ⟨by show _ ≤ 20; omega, by show _ ≤ 100; omega⟩ ?_
      refine g_iload X dL_act_444 0 rfl ?_
      refine g_icmp_ne X 453 dL_act_446 (by decide) (fun c_16 => ?_) (fun c_16 => ?_)
      · exfalso; exact c_16 rfl
      · skip
        refine g_iconst X (v := 1) dL_act_449 (by decide) ?_
        refine g_goto X 454 dL_act_450 (by decide) ?_
        have hAx : Inx σ_15 (N + 1) T S d ∧ Act ρ σ_15 := by rw [sσ_15]; exact ax_per hX (by omega) hz hw
        have hLx : LnOK σ_15 T Ln := Ln_cg hLn (fun t ht => by rw [sσ_15]; funext j; exact up2_k (by omega))
        rw [← sσ_15]
        refine g_0F ?_
        exact g_acret X hr hlk (by omega) (by omega) dL_act_454 rfl rfl (Inx_up hAx.1 (by omega) hN) hLx hAx.2
    · skip
      refine g_iconst X (v := 1) dL_act_400 (by decide) ?_
      refine g_0F ?_
      exact g_acret X hr hlk (by omega) (by omega) dL_act_401 rfl rfl (Inx_up hX (by omega) hN) hLn Act_rf
  · skip
    refine g_tableIn X 455 dL_act_65 (by decide) (by decide) rfl (by decide) ?_
    refine g_iload_n X dL_act_455 5 rfl rfl ?_
    refine g_iconst X (v := 4) dL_act_456 (by decide) ?_
    refine g_ishr X dL_act_457 ?_
    refine g_bipush X (v := 7) dL_act_458 (by decide) ?_
    refine g_below X 7 (by omega) (by omega) kl_L_15 ⟨Nat.le_of_ble_eq_true rfl, Nat.le_of_ble_eq_true rfl⟩ (Nat.le_of_ble_eq_true rfl) dL_act_460 ⟨by show _ ≤ 20; omega, by show _ ≤ 100; omega⟩ (fun kd hkd => ?_)
    refine g_istore X [(6, .int _), (5, .int _), (4, .int _), (3, .int _), (0, .ref _), (1, .ref _), (2, .int _)] dL_act_463 (by decide) rfl ?_
    refine g_aload_n X dL_act_465 5 rfl rfl ?_
    refine g_getr X (0 + 48 + 0) (by show 0 + 48 + 0 < 0 + (48 + (8 + S + T)); omega) 9 (by decide) ku_X4 kv_X4 kf_L_49 rfl (gSub_fr (off := 0 + 48) sub_FS lS_damp (by omega) (by omega)) dL_act_466 ?_
    refine g_iload X dL_act_469 0 rfl ?_
    refine g_ialdN X (0 + 48 + 7) kd (by show 0 + 48 + 7 < 0 + (48 + (8 + S + T)); omega) (gSub_ai (off := 0 + 48) (sub_FS (fa := fun _ => 0) (ad := ad)) lS_a7 (by omega)) (by omega) (by decide) dL_act_471 ?_
    rw [rF, rS_7]
    refine g_istore X [(7, .int _), (6, .int _), (5, .int _), (4, .int _), (3, .int _), (0, .ref _), (1, .ref _), (2, .int _)] dL_act_472 (by decide) rfl ?_
    refine g_aload_n X dL_act_474 6 rfl rfl ?_
    refine g_getr X (0 + 48 + 0) (by show 0 + 48 + 0 < 0 + (48 + (8 + S + T)); omega) 9 (by decide) ku_X4 kv_X4 kf_L_49 rfl (gSub_fr (off := 0 + 48) sub_FS lS_damp (by omega) (by omega)) dL_act_475 ?_
    refine g_iload X dL_act_478 1 rfl ?_
    refine g_iload_n X dL_act_480 7 rfl rfl ?_
    refine g_bipush X (v := 6) dL_act_481 (by decide) ?_
    refine g_ishr X dL_act_483 ?_
    refine g_bipush X (v := 6) dL_act_484 (by decide) ?_
    refine g_below X 6 (by omega) (by omega) kl_L_15 ⟨Nat.le_of_ble_eq_true rfl, Nat.le_of_ble_eq_true rfl⟩ (Nat.le_of_ble_eq_true rfl) dL_act_486 ⟨by show _ ≤ 20; omega, by show _ ≤ 100; omega⟩ (fun kw hkw => ?_)
    refine g_iastN X (0 + 48 + 7) kd (by show 0 + 48 + 7 < 0 + (48 + (8 + S + T)); omega) (gSub_ai (off := 0 + 48) (sub_FS (fa := fun _ => 0) (ad := ad)) lS_a7 (by omega)) (by omega) (by decide) dL_act_489 (fun ρ_17 eρ_17 => ?_)
    obtain ⟨σ_18, sσ_18, rfl⟩ := wXF eρ_17 wS_7
    refine g_aload_n X dL_act_490 5 rfl rfl ?_
    refine g_iload X dL_act_491 1 rfl ?_
    refine g_aload_n X dL_act_493 6 rfl rfl ?_
    refine g_getr X (0 + 48 + 0) (by show 0 + 48 + 0 < 0 + (48 + (8 + S + T)); omega) 9 (by decide) ku_X4 kv_X4 kf_L_49 rfl (gSub_fr (off := 0 + 48) sub_FS lS_damp (by omega) (by omega)) dL_act_494 ?_
    refine g_iload X dL_act_497 1 rfl ?_
    refine g_ialdN X (0 + 48 + 7) kd (by show 0 + 48 + 7 < 0 + (48 + (8 + S + T)); omega) (gSub_ai (off := 0 + 48) (sub_FS (fa := fun _ => 0) (ad := ad)) lS_a7 (by omega)) (by omega) (by decide) dL_act_499 ?_
    rw [rF, rS_7]
    rw [show σ_18 13 kd = nI kw by rw [sσ_18]; exact up2_s]
    refine g_yc (F := 0) X hE (gYI_2 (c_X3_setDamp l hl0 D cy ad ρ N T S d hI (nI kd) (nI kw)) (dam_ok (k := kd) (w := kw) hkd (by omega))) kl_L_53 ⟨rfl, rfl, Nat.le_of_ble_eq_true rfl, Nat.le_of_ble_eq_true rfl⟩ rfl rfl (Nat.le_of_ble_eq_true rfl) dL_act_500 ⟨by show _ ≤ 20; omega, by show _ ≤ 100; omega⟩ ?_
    refine g_iload X dL_act_503 0 rfl ?_
    refine g_icmp_ne X 512 dL_act_505 (by decide) (fun c_19 => ?_) (fun c_19 => ?_)
    · exfalso; exact c_19 rfl
    · skip
      refine g_iconst X (v := 1) dL_act_508 (by decide) ?_
      refine g_goto X 513 dL_act_509 (by decide) ?_
      have hAx : Inx σ_18 (N + 1) T S d ∧ Act ρ σ_18 := by rw [sσ_18]; exact ax_dam hX (by omega) hkd (by omega)
      have hLx : LnOK σ_18 T Ln := Ln_cg hLn (fun t ht => by rw [sσ_18]; funext j; exact up2_k (by omega))
      rw [← sσ_18]
      refine g_0F ?_
      exact g_acret X hr hlk (by omega) (by omega) dL_act_513 rfl rfl (Inx_up hAx.1 (by omega) hN) hLx hAx.2
  · skip
    refine g_tableIn X 514 dL_act_65 (by decide) (by decide) rfl (by decide) ?_
    refine g_iload_n X dL_act_514 5 rfl rfl ?_
    refine g_bipush X (v := 6) dL_act_515 (by decide) ?_
    refine g_ishr X dL_act_517 ?_
    refine g_sipush X (v := 241) dL_act_518 (by decide) ?_
    refine g_below X 241 (by omega) (by omega) kl_L_15 ⟨Nat.le_of_ble_eq_true rfl, Nat.le_of_ble_eq_true rfl⟩ (Nat.le_of_ble_eq_true rfl) dL_act_521 ⟨by show _ ≤ 20; omega, by show _ ≤ 100; omega⟩ (fun kb hkb => ?_)
    refine g_bipush X (v := 120) dL_act_524 (by decide) ?_
    refine g_isub X dL_act_526 ?_
    refine g_istore X [(6, .int _), (5, .int _), (4, .int _), (3, .int _), (0, .ref _), (1, .ref _), (2, .int _)] dL_act_527 (by decide) rfl ?_
    refine g_iload_n X dL_act_529 6 rfl rfl ?_
    refine g_iconst X (v := 5) dL_act_530 (by decide) ?_
    refine g_ishr X dL_act_531 ?_
    refine g_iconst X (v := 2) dL_act_532 (by decide) ?_
    refine g_below X 2 (by omega) (by omega) kl_L_15 ⟨Nat.le_of_ble_eq_true rfl, Nat.le_of_ble_eq_true rfl⟩ (Nat.le_of_ble_eq_true rfl) dL_act_533 ⟨by show _ ≤ 20; omega, by show _ ≤ 100; omega⟩ (fun k2 hk2 => ?_)
    refine g_if_ne X 546 dL_act_536 (by decide) (fun c_20 => ?_) (fun c_20 => ?_)
    · skip
      obtain ⟨by9, hby, hb1, hb2⟩ : ∃ y : Int32, y = nI kb - 120 ∧ ¬ y < -120 ∧ y ≤ 120 := ⟨_, rfl, (by_dec ⟨kb, hkb⟩).1⟩
      rw [← hby]
      refine g_aload_n X dL_act_546 5 rfl rfl ?_
      refine g_getr X (0 + 48 + 0) (by show 0 + 48 + 0 < 0 + (48 + (8 + S + T)); omega) 4 (by decide) ku_X4 kv_X4 kf_L_56 rfl (gSub_fr (off := 0 + 48) sub_FS lS_off (by omega) (by omega)) dL_act_547 ?_
      refine g_iload X dL_act_550 1 rfl ?_
      refine g_bipush X (v := -60) dL_act_552 (by decide) ?_
      refine g_bipush X (v := 60) dL_act_554 (by decide) ?_
      refine g_aload_n X dL_act_556 5 rfl rfl ?_
      refine g_getr X (0 + 48 + 0) (by show 0 + 48 + 0 < 0 + (48 + (8 + S + T)); omega) 4 (by decide) ku_X4 kv_X4 kf_L_56 rfl (gSub_fr (off := 0 + 48) sub_FS lS_off (by omega) (by omega)) dL_act_557 ?_
      refine g_iload X dL_act_560 1 rfl ?_
      refine g_ialdN X (0 + 48 + 2) j0 (by show 0 + 48 + 2 < 0 + (48 + (8 + S + T)); omega) (gSub_ai (off := 0 + 48) (sub_FS (fa := fun _ => 0) (ad := ad)) lS_a2 (by omega)) (by omega) (by decide) dL_act_562 ?_
      rw [rF, rS_2]
      refine g_iload X dL_act_563 0 rfl ?_
      refine g_iadd X dL_act_565 ?_
      refine g_mmin X km_L_59 kt_mmin ki_math kc_mmin ⟨Nat.le_of_ble_eq_true rfl, Nat.le_of_ble_eq_true rfl, by show _ ≤ 20; omega, by show _ ≤ 100; omega⟩ dL_act_566 ?_
      refine g_mmax X km_L_64 kt_mmax ki_math kc_mmax ⟨Nat.le_of_ble_eq_true rfl, Nat.le_of_ble_eq_true rfl, by show _ ≤ 20; omega, by show _ ≤ 100; omega⟩ dL_act_569 ?_
      refine g_stk (v' := .int (hdd (ρ 3 j0 + by9))) rfl ?_
      refine g_iastN X (0 + 48 + 2) j0 (by show 0 + 48 + 2 < 0 + (48 + (8 + S + T)); omega) (gSub_ai (off := 0 + 48) (sub_FS (fa := fun _ => 0) (ad := ad)) lS_a2 (by omega)) (by omega) (by decide) dL_act_572 (fun ρ_21 eρ_21 => ?_)
      obtain ⟨σ_22, sσ_22, rfl⟩ := wXF eρ_21 wS_2
      refine g_aload_n X dL_act_573 4 rfl rfl ?_
      refine g_iload X dL_act_574 1 rfl ?_
      refine g_iload X dL_act_576 0 rfl ?_
      refine g_yc (F := 0) X hE (gYI_2 (c_X3_tune l hl0 D cy ad ρ N T S d hI (nI j0) by9) (tun_ok hj0 hb1 hb2)) kl_L_67 ⟨rfl, rfl, Nat.le_of_ble_eq_true rfl, Nat.le_of_ble_eq_true rfl⟩ rfl rfl (Nat.le_of_ble_eq_true rfl) dL_act_578 ⟨by show _ ≤ 20; omega, by show _ ≤ 100; omega⟩ ?_
      refine g_aload_n X dL_act_581 5 rfl rfl ?_
      refine g_getr X (0 + 48 + 0) (by show 0 + 48 + 0 < 0 + (48 + (8 + S + T)); omega) 4 (by decide) ku_X4 kv_X4 kf_L_56 rfl (gSub_fr (off := 0 + 48) sub_FS lS_off (by omega) (by omega)) dL_act_582 ?_
      refine g_iload X dL_act_585 1 rfl ?_
      refine g_ialdN X (0 + 48 + 2) j0 (by show 0 + 48 + 2 < 0 + (48 + (8 + S + T)); omega) (gSub_ai (off := 0 + 48) (sub_FS (fa := fun _ => 0) (ad := ad)) lS_a2 (by omega)) (by omega) (by decide) dL_act_587 ?_
      rw [rF, rS_2]
      rw [show σ_22 3 j0 = hdd (ρ 3 j0 + by9) by rw [sσ_22]; exact up2_s]
      refine g_icmp_ne X 595 dL_act_588 (by decide) (fun c_23 => ?_) (fun c_23 => ?_)
      · exfalso; exact c_23 rfl
      · skip
        refine g_iconst X (v := 1) dL_act_591 (by decide) ?_
        refine g_goto X 596 dL_act_592 (by decide) ?_
        have hAx : Inx σ_22 (N + 1) T S d ∧ Act ρ σ_22 := by rw [sσ_22]; exact ax_tun hX (by omega) hj0 hb1 hb2
        have hLx : LnOK σ_22 T Ln := Ln_cg hLn (fun t ht => by rw [sσ_22]; funext j; exact up2_k (by omega))
        rw [← sσ_22]
        refine g_0F ?_
        exact g_acret X hr hlk (by omega) (by omega) dL_act_596 rfl rfl (Inx_up hAx.1 (by omega) hN) hLx hAx.2
    · skip
      refine g_iload X dL_act_539 0 rfl ?_
      refine g_bipush X (v := 9) dL_act_541 (by decide) ?_
      refine g_idiv X dL_act_543 (by decide) ?_
      obtain ⟨by9, hby, hb1, hb2⟩ : ∃ y : Int32, y = (nI kb - 120) / 9 ∧ ¬ y < -120 ∧ y ≤ 120 := ⟨_, rfl, (by_dec ⟨kb, hkb⟩).2⟩
      rw [← hby]
      refine g_istore X [(6, .int _), (5, .int _), (4, .int _), (3, .int _), (0, .ref _), (1, .ref _), (2, .int _)] dL_act_544 (by decide) rfl ?_
      refine g_aload_n X dL_act_546 5 rfl rfl ?_
      refine g_getr X (0 + 48 + 0) (by show 0 + 48 + 0 < 0 + (48 + (8 + S + T)); omega) 4 (by decide) ku_X4 kv_X4 kf_L_56 rfl (gSub_fr (off := 0 + 48) sub_FS lS_off (by omega) (by omega)) dL_act_547 ?_
      refine g_iload X dL_act_550 1 rfl ?_
      refine g_bipush X (v := -60) dL_act_552 (by decide) ?_
      refine g_bipush X (v := 60) dL_act_554 (by decide) ?_
      refine g_aload_n X dL_act_556 5 rfl rfl ?_
      refine g_getr X (0 + 48 + 0) (by show 0 + 48 + 0 < 0 + (48 + (8 + S + T)); omega) 4 (by decide) ku_X4 kv_X4 kf_L_56 rfl (gSub_fr (off := 0 + 48) sub_FS lS_off (by omega) (by omega)) dL_act_557 ?_
      refine g_iload X dL_act_560 1 rfl ?_
      refine g_ialdN X (0 + 48 + 2) j0 (by show 0 + 48 + 2 < 0 + (48 + (8 + S + T)); omega) (gSub_ai (off := 0 + 48) (sub_FS (fa := fun _ => 0) (ad := ad)) lS_a2 (by omega)) (by omega) (by decide) dL_act_562 ?_
      rw [rF, rS_2]
      refine g_iload X dL_act_563 0 rfl ?_
      refine g_iadd X dL_act_565 ?_
      refine g_mmin X km_L_59 kt_mmin ki_math kc_mmin ⟨Nat.le_of_ble_eq_true rfl, Nat.le_of_ble_eq_true rfl, by show _ ≤ 20; omega, by show _ ≤ 100; omega⟩ dL_act_566 ?_
      refine g_mmax X km_L_64 kt_mmax ki_math kc_mmax ⟨Nat.le_of_ble_eq_true rfl, Nat.le_of_ble_eq_true rfl, by show _ ≤ 20; omega, by show _ ≤ 100; omega⟩ dL_act_569 ?_
      refine g_stk (v' := .int (hdd (ρ 3 j0 + by9))) rfl ?_
      refine g_iastN X (0 + 48 + 2) j0 (by show 0 + 48 + 2 < 0 + (48 + (8 + S + T)); omega) (gSub_ai (off := 0 + 48) (sub_FS (fa := fun _ => 0) (ad := ad)) lS_a2 (by omega)) (by omega) (by decide) dL_act_572 (fun ρ_24 eρ_24 => ?_)
      obtain ⟨σ_25, sσ_25, rfl⟩ := wXF eρ_24 wS_2
      refine g_aload_n X dL_act_573 4 rfl rfl ?_
      refine g_iload X dL_act_574 1 rfl ?_
      refine g_iload X dL_act_576 0 rfl ?_
      refine g_yc (F := 0) X hE (gYI_2 (c_X3_tune l hl0 D cy ad ρ N T S d hI (nI j0) by9) (tun_ok hj0 hb1 hb2)) kl_L_67 ⟨rfl, rfl, Nat.le_of_ble_eq_true rfl, Nat.le_of_ble_eq_true rfl⟩ rfl rfl (Nat.le_of_ble_eq_true rfl) dL_act_578 ⟨by show _ ≤ 20; omega, by show _ ≤ 100; omega⟩ ?_
      refine g_aload_n X dL_act_581 5 rfl rfl ?_
      refine g_getr X (0 + 48 + 0) (by show 0 + 48 + 0 < 0 + (48 + (8 + S + T)); omega) 4 (by decide) ku_X4 kv_X4 kf_L_56 rfl (gSub_fr (off := 0 + 48) sub_FS lS_off (by omega) (by omega)) dL_act_582 ?_
      refine g_iload X dL_act_585 1 rfl ?_
      refine g_ialdN X (0 + 48 + 2) j0 (by show 0 + 48 + 2 < 0 + (48 + (8 + S + T)); omega) (gSub_ai (off := 0 + 48) (sub_FS (fa := fun _ => 0) (ad := ad)) lS_a2 (by omega)) (by omega) (by decide) dL_act_587 ?_
      rw [rF, rS_2]
      rw [show σ_25 3 j0 = hdd (ρ 3 j0 + by9) by rw [sσ_25]; exact up2_s]
      refine g_icmp_ne X 595 dL_act_588 (by decide) (fun c_26 => ?_) (fun c_26 => ?_)
      · exfalso; exact c_26 rfl
      · skip
        refine g_iconst X (v := 1) dL_act_591 (by decide) ?_
        refine g_goto X 596 dL_act_592 (by decide) ?_
        have hAx : Inx σ_25 (N + 1) T S d ∧ Act ρ σ_25 := by rw [sσ_25]; exact ax_tun hX (by omega) hj0 hb1 hb2
        have hLx : LnOK σ_25 T Ln := Ln_cg hLn (fun t ht => by rw [sσ_25]; funext j; exact up2_k (by omega))
        rw [← sσ_25]
        refine g_0F ?_
        exact g_acret X hr hlk (by omega) (by omega) dL_act_596 rfl rfl (Inx_up hAx.1 (by omega) hN) hLx hAx.2
  · skip
    refine g_tableIn X 597 dL_act_65 (by decide) (by decide) rfl (by decide) ?_
    refine g_aload_n X dL_act_597 4 rfl rfl ?_
    refine g_geti X (0 + 48 + 0) (by show 0 + 48 + 0 < 0 + (48 + (8 + S + T)); omega) 1 (by decide) ku_X4 kv_X4 kf_L_70 rfl (gSub_fi (off := 0 + 48) (sub_FS (fa := fun _ => 0) (ad := ad)) lS_coins (by omega)) dL_act_598 ?_
    rw [rF, rS_coins]
    refine g_iconst X (v := 4) dL_act_601 (by decide) ?_
    refine g_icmp_ge X 607 dL_act_602 (by decide) (fun c_27 => ?_) (fun c_27 => ?_)
    · skip
      have h4 : ¬ ρ 0 8 < 4 := Int32.not_lt.mpr c_27
      refine g_aload_n X dL_act_607 4 rfl rfl ?_
      refine g_getr X (0 + 48 + 0) (by show 0 + 48 + 0 < 0 + (48 + (8 + S + T)); omega) 3 (by decide) ku_X4 kv_X4 kf_L_74 rfl (gSub_fr (off := 0 + 48) sub_FS lS_worn (by omega) (by omega)) dL_act_608 ?_
      refine g_iload X dL_act_611 0 rfl ?_
      refine g_ialdN X (0 + 48 + 1) j0 (by show 0 + 48 + 1 < 0 + (48 + (8 + S + T)); omega) (gSub_ai (off := 0 + 48) (sub_FS (fa := fun _ => 0) (ad := ad)) lS_a1 (by omega)) (by omega) (by decide) dL_act_613 ?_
      rw [rF, rS_1]
      refine g_istore X [(6, .int _), (5, .int _), (4, .int _), (3, .int _), (0, .ref _), (1, .ref _), (2, .int _)] dL_act_614 (by decide) rfl ?_
      refine g_aload_n X dL_act_616 5 rfl rfl ?_
      refine g_getr X (0 + 48 + 0) (by show 0 + 48 + 0 < 0 + (48 + (8 + S + T)); omega) 3 (by decide) ku_X4 kv_X4 kf_L_74 rfl (gSub_fr (off := 0 + 48) sub_FS lS_worn (by omega) (by omega)) dL_act_617 ?_
      refine g_iload X dL_act_620 1 rfl ?_
      refine g_iconst X (v := 0) dL_act_622 (by decide) ?_
      refine g_iastN X (0 + 48 + 1) j0 (by show 0 + 48 + 1 < 0 + (48 + (8 + S + T)); omega) (gSub_ai (off := 0 + 48) (sub_FS (fa := fun _ => 0) (ad := ad)) lS_a1 (by omega)) (by omega) (by decide) dL_act_623 (fun ρ_28 eρ_28 => ?_)
      obtain ⟨σ_29, sσ_29, rfl⟩ := wXF eρ_28 wS_1
      refine g_aload_n X dL_act_624 5 rfl rfl ?_
      refine g_dup X dL_act_625 rfl ?_
      refine g_geti X (0 + 48 + 0) (by show 0 + 48 + 0 < 0 + (48 + (8 + S + T)); omega) 1 (by decide) ku_X4 kv_X4 kf_L_70 rfl (gSub_fi (off := 0 + 48) (sub_FS (fa := fun _ => 0) (ad := ad)) lS_coins (by omega)) dL_act_626 ?_
      rw [rF, rS_coins]
      rw [show σ_29 0 8 = ρ 0 8 by rw [sσ_29]; exact up2_k (by omega)]
      refine g_iconst X (v := 4) dL_act_629 (by decide) ?_
      refine g_isub X dL_act_630 ?_
      refine g_puti X (0 + 48 + 0) (by show 0 + 48 + 0 < 0 + (48 + (8 + S + T)); omega) 1 (by decide) ku_X4 kv_X4 kf_L_70 rfl tyX4 tyX4_ok nmX4 rfl (by decide +kernel) (gSub_fi (off := 0 + 48) (sub_FS (fa := fun _ => 0) (ad := ad)) lS_coins (by omega)) dL_act_631 (fun ρ_30 eρ_30 => ?_)
      obtain ⟨σ_31, sσ_31, rfl⟩ := wXF eρ_30 wS_coins
      refine g_aload_n X dL_act_634 4 rfl rfl ?_
      refine g_iload X dL_act_635 1 rfl ?_
      refine g_yc (F := 0) X hE (gYI_2 (c_X3_felt l hl0 D cy ad ρ N T S d hI (nI j0)) (fel_ok hj0 h4)) kl_L_77 ⟨rfl, rfl, Nat.le_of_ble_eq_true rfl, Nat.le_of_ble_eq_true rfl⟩ rfl rfl (Nat.le_of_ble_eq_true rfl) dL_act_637 ⟨by show _ ≤ 20; omega, by show _ ≤ 100; omega⟩ ?_
      refine g_iload X dL_act_640 0 rfl ?_
      refine g_icmp_ne X 649 dL_act_642 (by decide) (fun c_32 => ?_) (fun c_32 => ?_)
      · exfalso; exact c_32 rfl
      · skip
        refine g_iconst X (v := 1) dL_act_645 (by decide) ?_
        refine g_goto X 650 dL_act_646 (by decide) ?_
        have hσ9 : σ_31 = up2 (up2 ρ 0 8 (ρ 0 8 - 4)) 2 j0 0 := by subst_vars; funext a b; simp only [up2_e]; grind
        have hAx : Inx σ_31 (N + 1) T S d ∧ Act ρ σ_31 := by rw [hσ9]; exact ax_fel hX (by omega) hj0 h4
        have hLx : LnOK σ_31 T Ln := Ln_cg hLn (fun t ht => by rw [hσ9]; funext j; rw [up2_k (by omega), up2_k (by omega)])
        rw [← hσ9]
        refine g_0F ?_
        exact g_acret X hr hlk (by omega) (by omega) dL_act_650 rfl rfl (Inx_up hAx.1 (by omega) hN) hLx hAx.2
    · skip
      refine g_iconst X (v := 1) dL_act_605 (by decide) ?_
      refine g_0F ?_
      exact g_acret X hr hlk (by omega) (by omega) dL_act_606 rfl rfl (Inx_up hX (by omega) hN) hLn Act_rf
  · skip
    refine g_tableIn X 651 dL_act_65 (by decide) (by decide) rfl (by decide) ?_
    refine g_iload_n X dL_act_651 5 rfl rfl ?_
    refine g_iconst X (v := 5) dL_act_652 (by decide) ?_
    refine g_ishr X dL_act_653 ?_
    refine g_iconst X (v := 3) dL_act_654 (by decide) ?_
    refine g_below X 3 (by omega) (by omega) kl_L_15 ⟨Nat.le_of_ble_eq_true rfl, Nat.le_of_ble_eq_true rfl⟩ (Nat.le_of_ble_eq_true rfl) dL_act_655 ⟨by show _ ≤ 20; omega, by show _ ≤ 100; omega⟩ (fun kc hkc => ?_)
    refine g_if_le X 663 dL_act_658 (by decide) (fun c_33 => ?_) (fun c_33 => ?_)
    · skip
      refine g_0F ?_
      refine g_ls (ls' := [(0, .ref _), (1, .ref _)]) [3, 4] rfl ?_
      exact act_cha X hl0 hE hZ hr hlk hX hLn hN 
    · skip
      refine g_iconst X (v := 1) dL_act_661 (by decide) ?_
      refine g_0F ?_
      exact g_acret X hr hlk (by omega) (by omega) dL_act_662 rfl rfl (Inx_up hX (by omega) hN) hLn Act_rf
  · skip
    refine g_tableOut X 692 dL_act_65 (by decide) (by decide) ?_
    refine g_iload_n X dL_act_692 2 rfl rfl ?_
    refine g_if_lt X 711 dL_act_693 (by decide) (fun c_34 => ?_) (fun c_34 => ?_)
    · skip
      refine g_iconst X (v := 1) dL_act_711 (by decide) ?_
      refine g_0F ?_
      exact g_acret X hr hlk (by omega) (by omega) dL_act_712 rfl rfl (Inx_up hX (by omega) hN) hLn Act_rf
    · skip
      obtain ⟨t, ht, rfl⟩ := pt_ge hxt c_34
      have hLt := (hLn t ht).2
      refine g_iload X dL_act_696 1 rfl ?_
      refine g_if_lt X 711 dL_act_698 (by decide) (fun c_35 => ?_) (fun c_35 => ?_)
      · skip
        refine g_iconst X (v := 1) dL_act_711 (by decide) ?_
        refine g_0F ?_
        exact g_acret X hr hlk (by omega) (by omega) dL_act_712 rfl rfl (Inx_up hX (by omega) hN) hLn Act_rf
      · skip
        obtain ⟨z, hz, rfl⟩ := pt_ge hxz c_35
        refine g_aload_n X dL_act_701 4 rfl rfl ?_
        refine g_getr X (0 + 48 + 0) (by show 0 + 48 + 0 < 0 + (48 + (8 + S + T)); omega) 7 (by decide) ku_X4 kv_X4 kf_L_9 rfl (gSub_fr (off := 0 + 48) sub_FS lS_tunes (by omega) (by omega)) dL_act_702 ?_
        refine g_iload_n X dL_act_705 2 rfl rfl ?_
        refine g_aaldA X (0 + 48 + 5) t (by show 0 + 48 + 5 < 0 + (48 + (8 + S + T)); omega) (gSub_ar (off := 0 + 48) sub_FS lS_ts (by omega) (fun i hi => by omega)) rfl (by omega) (by omega) dL_act_706 ?_
        rw [jF_48]
        refine g_alenS (F := 0) X (8 + S + t) lS_tu (by omega) dL_act_707 ?_
        refine g_if_ne X 713 dL_act_708 (by decide) (fun c_36 => ?_) (fun c_36 => ?_)
        · skip
          have hL0 : ¬ ρ (14 + 3 * t) 2 = 0 := by rw [(hLn t ht).1]; exact c_36
          refine g_iload_n X dL_act_713 5 rfl rfl ?_
          refine g_bipush X (v := 7) dL_act_714 (by decide) ?_
          refine g_ishr X dL_act_716 ?_
          refine g_iconst X (v := 5) dL_act_717 (by decide) ?_
          refine g_below X 5 (by omega) (by omega) kl_L_15 ⟨Nat.le_of_ble_eq_true rfl, Nat.le_of_ble_eq_true rfl⟩ (Nat.le_of_ble_eq_true rfl) dL_act_718 ⟨by show _ ≤ 20; omega, by show _ ≤ 100; omega⟩ (fun kp hkp => ?_)
          refine g_istore X [(6, .int _), (5, .int _), (4, .int _), (3, .int _), (0, .ref _), (1, .ref _), (2, .int _)] dL_act_721 (by decide) rfl ?_
          refine g_widen (k9 := 0 + 3 * 0) (n9 := 0 + 18 * 0) (by omega) (by omega) ?_
          refine g_ls (ls' := [(0, .ref _), (1, .ref _), (3, .int _), (4, .int _), (6, .int _)]) [4, 5, 3, 2, 0] rfl ?_
          refine g_loop (fun _ => True) (fun i => jF 0 z0 (wR S (plI ρ z t i) (plI ρ z t i))) (fun i => [(0, .ref (ad 0)), (1, .ref (ad 48)), (3, .int (nI t)), (4, .int (nI z)), (6, .int (nI kp - nI i))]) (fun i => 0 + 3 * i) (fun i => 0 + 18 * i) (kp + 1) 0 trivial (by omega) (by rw [show nI 0 = 0 from rfl, Int32.sub_zero]) rfl rfl rfl (fun i h0i hi hIi ihi => ?_)
          obtain ⟨ρa, eρa⟩ : ∃ ρz, ρz = plI ρ z t i := ⟨_, rfl⟩
          rw [← eρa]
          obtain ⟨hXi, hAi, hqi, hLi, hni⟩ := ax_plI (k := i) hX hz ht hL0 hLn (by omega)
          rw [← eρa] at hXi hAi hqi hLi hni
          obtain ⟨iT, iT6, iS, iS8, id, idN, iN6, iTu, iSt, iPi, iZ9, iHd⟩ := _root_.id hXi.1
          have iwd : wdF ρa = nI (d % 7) := by unfold wdF; rw [id, nI_clamp (by omega)]
          refine g_iload X dL_act_723 4 rfl ?_
          refine g_if_lt X 753 dL_act_725 (by decide) (fun c_37 => ?_) (fun c_37 => ?_)
          · skip
            refine g_iconst X (v := 1) dL_act_753 (by decide) ?_
            refine g_0F ?_
            exact g_acret X hr hlk (by omega) (by omega) dL_act_754 rfl rfl (Inx_up hXi (by omega) hN) hLi hAi
          · skip
            have hik : i ≤ kp := kp_le hkp hi c_37
            refine g_aload_n X dL_act_728 0 rfl rfl ?_
            refine g_iload X dL_act_729 3 rfl ?_
            refine g_iload_n X dL_act_731 2 rfl rfl ?_
            refine g_yc (F := 0) X hE (gYI_2 (c_X3_play l hl0 D cy ad ρa (N + i) T S d hXi.1 (nI z) (nI t)) (pla_ok iT iT6 iS iS8 hz ht hni)) kl_L_91 ⟨rfl, rfl, Nat.le_of_ble_eq_true rfl, Nat.le_of_ble_eq_true rfl⟩ rfl rfl (Nat.le_of_ble_eq_true rfl) dL_act_732 ⟨by show _ ≤ 20; omega, by show _ ≤ 100; omega⟩ ?_
            refine g_aload_n X dL_act_735 1 rfl rfl ?_
            refine g_iload X dL_act_736 3 rfl ?_
            refine g_iload_n X dL_act_738 2 rfl rfl ?_
            refine g_sc (F := 0) X (c_X4_play l D cy (aS ad) ρa S T Ln z t d hz ht hT6 hS8 (iTu t (by omega)) (hLi t ht) (Inv_pay hXi.1 (by omega) (by omega)) iwd id (by omega) (hXi.2.1 z (by omega)) (fun j hj => (iPi j hj).1)) kl_L_94 ⟨rfl, rfl, Nat.le_of_ble_eq_true rfl, Nat.le_of_ble_eq_true rfl⟩ rfl rfl (Nat.le_of_ble_eq_true rfl) dL_act_739 ⟨by show _ ≤ 20; omega, by show _ ≤ 100; omega⟩ ?_
            refine g_icmp_eq X 747 dL_act_742 (by decide) (fun c_38 => ?_) (fun c_38 => ?_)
            · skip
              refine g_iinc X (_ + -1) [(6, .int _), (0, .ref _), (1, .ref _), (3, .int _), (4, .int _)] 4 dL_act_747 rfl rfl (by decide) rfl ?_
              refine g_goto X 723 dL_act_750 (by decide) ?_
              refine g_ls (ls' := [(0, .ref _), (1, .ref _), (3, .int _), (4, .int _), (6, .int _)]) [1, 2, 3, 4, 0] rfl ?_
              refine g_widen (k9 := (0 + 3 * (i + 1))) (n9 := (0 + 18 * (i + 1))) (by omega) (by omega) ?_
              exact g_eqv (ihi (by omega) trivial) ((by rw [sub1_kp])) (by subst_vars; rfl) rfl rfl
            · exfalso; exact c_38 rfl
        · skip
          refine g_iconst X (v := 1) dL_act_711 (by decide) ?_
          refine g_0F ?_
          exact g_acret X hr hlk (by omega) (by omega) dL_act_712 rfl rfl (Inx_up hX (by omega) hN) hLn Act_rf
  · skip
    refine g_tableOut X 692 dL_act_65 (by decide) (by decide) ?_
    refine g_iload_n X dL_act_692 2 rfl rfl ?_
    refine g_if_lt X 711 dL_act_693 (by decide) (fun c_39 => ?_) (fun c_39 => ?_)
    · skip
      refine g_iconst X (v := 1) dL_act_711 (by decide) ?_
      refine g_0F ?_
      exact g_acret X hr hlk (by omega) (by omega) dL_act_712 rfl rfl (Inx_up hX (by omega) hN) hLn Act_rf
    · skip
      obtain ⟨t, ht, rfl⟩ := pt_ge hxt c_39
      have hLt := (hLn t ht).2
      refine g_iload X dL_act_696 1 rfl ?_
      refine g_if_lt X 711 dL_act_698 (by decide) (fun c_40 => ?_) (fun c_40 => ?_)
      · skip
        refine g_iconst X (v := 1) dL_act_711 (by decide) ?_
        refine g_0F ?_
        exact g_acret X hr hlk (by omega) (by omega) dL_act_712 rfl rfl (Inx_up hX (by omega) hN) hLn Act_rf
      · skip
        obtain ⟨z, hz, rfl⟩ := pt_ge hxz c_40
        refine g_aload_n X dL_act_701 4 rfl rfl ?_
        refine g_getr X (0 + 48 + 0) (by show 0 + 48 + 0 < 0 + (48 + (8 + S + T)); omega) 7 (by decide) ku_X4 kv_X4 kf_L_9 rfl (gSub_fr (off := 0 + 48) sub_FS lS_tunes (by omega) (by omega)) dL_act_702 ?_
        refine g_iload_n X dL_act_705 2 rfl rfl ?_
        refine g_aaldA X (0 + 48 + 5) t (by show 0 + 48 + 5 < 0 + (48 + (8 + S + T)); omega) (gSub_ar (off := 0 + 48) sub_FS lS_ts (by omega) (fun i hi => by omega)) rfl (by omega) (by omega) dL_act_706 ?_
        rw [jF_48]
        refine g_alenS (F := 0) X (8 + S + t) lS_tu (by omega) dL_act_707 ?_
        refine g_if_ne X 713 dL_act_708 (by decide) (fun c_41 => ?_) (fun c_41 => ?_)
        · skip
          have hL0 : ¬ ρ (14 + 3 * t) 2 = 0 := by rw [(hLn t ht).1]; exact c_41
          refine g_iload_n X dL_act_713 5 rfl rfl ?_
          refine g_bipush X (v := 7) dL_act_714 (by decide) ?_
          refine g_ishr X dL_act_716 ?_
          refine g_iconst X (v := 5) dL_act_717 (by decide) ?_
          refine g_below X 5 (by omega) (by omega) kl_L_15 ⟨Nat.le_of_ble_eq_true rfl, Nat.le_of_ble_eq_true rfl⟩ (Nat.le_of_ble_eq_true rfl) dL_act_718 ⟨by show _ ≤ 20; omega, by show _ ≤ 100; omega⟩ (fun kp hkp => ?_)
          refine g_istore X [(6, .int _), (5, .int _), (4, .int _), (3, .int _), (0, .ref _), (1, .ref _), (2, .int _)] dL_act_721 (by decide) rfl ?_
          refine g_widen (k9 := 0 + 3 * 0) (n9 := 0 + 18 * 0) (by omega) (by omega) ?_
          refine g_ls (ls' := [(0, .ref _), (1, .ref _), (3, .int _), (4, .int _), (6, .int _)]) [4, 5, 3, 2, 0] rfl ?_
          refine g_loop (fun _ => True) (fun i => jF 0 z0 (wR S (plI ρ z t i) (plI ρ z t i))) (fun i => [(0, .ref (ad 0)), (1, .ref (ad 48)), (3, .int (nI t)), (4, .int (nI z)), (6, .int (nI kp - nI i))]) (fun i => 0 + 3 * i) (fun i => 0 + 18 * i) (kp + 1) 0 trivial (by omega) (by rw [show nI 0 = 0 from rfl, Int32.sub_zero]) rfl rfl rfl (fun i h0i hi hIi ihi => ?_)
          obtain ⟨ρa, eρa⟩ : ∃ ρz, ρz = plI ρ z t i := ⟨_, rfl⟩
          rw [← eρa]
          obtain ⟨hXi, hAi, hqi, hLi, hni⟩ := ax_plI (k := i) hX hz ht hL0 hLn (by omega)
          rw [← eρa] at hXi hAi hqi hLi hni
          obtain ⟨iT, iT6, iS, iS8, id, idN, iN6, iTu, iSt, iPi, iZ9, iHd⟩ := _root_.id hXi.1
          have iwd : wdF ρa = nI (d % 7) := by unfold wdF; rw [id, nI_clamp (by omega)]
          refine g_iload X dL_act_723 4 rfl ?_
          refine g_if_lt X 753 dL_act_725 (by decide) (fun c_42 => ?_) (fun c_42 => ?_)
          · skip
            refine g_iconst X (v := 1) dL_act_753 (by decide) ?_
            refine g_0F ?_
            exact g_acret X hr hlk (by omega) (by omega) dL_act_754 rfl rfl (Inx_up hXi (by omega) hN) hLi hAi
          · skip
            have hik : i ≤ kp := kp_le hkp hi c_42
            refine g_aload_n X dL_act_728 0 rfl rfl ?_
            refine g_iload X dL_act_729 3 rfl ?_
            refine g_iload_n X dL_act_731 2 rfl rfl ?_
            refine g_yc (F := 0) X hE (gYI_2 (c_X3_play l hl0 D cy ad ρa (N + i) T S d hXi.1 (nI z) (nI t)) (pla_ok iT iT6 iS iS8 hz ht hni)) kl_L_91 ⟨rfl, rfl, Nat.le_of_ble_eq_true rfl, Nat.le_of_ble_eq_true rfl⟩ rfl rfl (Nat.le_of_ble_eq_true rfl) dL_act_732 ⟨by show _ ≤ 20; omega, by show _ ≤ 100; omega⟩ ?_
            refine g_aload_n X dL_act_735 1 rfl rfl ?_
            refine g_iload X dL_act_736 3 rfl ?_
            refine g_iload_n X dL_act_738 2 rfl rfl ?_
            refine g_sc (F := 0) X (c_X4_play l D cy (aS ad) ρa S T Ln z t d hz ht hT6 hS8 (iTu t (by omega)) (hLi t ht) (Inv_pay hXi.1 (by omega) (by omega)) iwd id (by omega) (hXi.2.1 z (by omega)) (fun j hj => (iPi j hj).1)) kl_L_94 ⟨rfl, rfl, Nat.le_of_ble_eq_true rfl, Nat.le_of_ble_eq_true rfl⟩ rfl rfl (Nat.le_of_ble_eq_true rfl) dL_act_739 ⟨by show _ ≤ 20; omega, by show _ ≤ 100; omega⟩ ?_
            refine g_icmp_eq X 747 dL_act_742 (by decide) (fun c_43 => ?_) (fun c_43 => ?_)
            · skip
              refine g_iinc X (_ + -1) [(6, .int _), (0, .ref _), (1, .ref _), (3, .int _), (4, .int _)] 4 dL_act_747 rfl rfl (by decide) rfl ?_
              refine g_goto X 723 dL_act_750 (by decide) ?_
              refine g_ls (ls' := [(0, .ref _), (1, .ref _), (3, .int _), (4, .int _), (6, .int _)]) [1, 2, 3, 4, 0] rfl ?_
              refine g_widen (k9 := (0 + 3 * (i + 1))) (n9 := (0 + 18 * (i + 1))) (by omega) (by omega) ?_
              exact g_eqv (ihi (by omega) trivial) ((by rw [sub1_kp])) (by subst_vars; rfl) rfl rfl
            · exfalso; exact c_43 rfl
        · skip
          refine g_iconst X (v := 1) dL_act_711 (by decide) ?_
          refine g_0F ?_
          exact g_acret X hr hlk (by omega) (by omega) dL_act_712 rfl rfl (Inx_up hX (by omega) hN) hLn Act_rf
  · skip
    refine g_tableOut X 692 dL_act_65 (by decide) (by decide) ?_
    refine g_iload_n X dL_act_692 2 rfl rfl ?_
    refine g_if_lt X 711 dL_act_693 (by decide) (fun c_44 => ?_) (fun c_44 => ?_)
    · skip
      refine g_iconst X (v := 1) dL_act_711 (by decide) ?_
      refine g_0F ?_
      exact g_acret X hr hlk (by omega) (by omega) dL_act_712 rfl rfl (Inx_up hX (by omega) hN) hLn Act_rf
    · skip
      obtain ⟨t, ht, rfl⟩ := pt_ge hxt c_44
      have hLt := (hLn t ht).2
      refine g_iload X dL_act_696 1 rfl ?_
      refine g_if_lt X 711 dL_act_698 (by decide) (fun c_45 => ?_) (fun c_45 => ?_)
      · skip
        refine g_iconst X (v := 1) dL_act_711 (by decide) ?_
        refine g_0F ?_
        exact g_acret X hr hlk (by omega) (by omega) dL_act_712 rfl rfl (Inx_up hX (by omega) hN) hLn Act_rf
      · skip
        obtain ⟨z, hz, rfl⟩ := pt_ge hxz c_45
        refine g_aload_n X dL_act_701 4 rfl rfl ?_
        refine g_getr X (0 + 48 + 0) (by show 0 + 48 + 0 < 0 + (48 + (8 + S + T)); omega) 7 (by decide) ku_X4 kv_X4 kf_L_9 rfl (gSub_fr (off := 0 + 48) sub_FS lS_tunes (by omega) (by omega)) dL_act_702 ?_
        refine g_iload_n X dL_act_705 2 rfl rfl ?_
        refine g_aaldA X (0 + 48 + 5) t (by show 0 + 48 + 5 < 0 + (48 + (8 + S + T)); omega) (gSub_ar (off := 0 + 48) sub_FS lS_ts (by omega) (fun i hi => by omega)) rfl (by omega) (by omega) dL_act_706 ?_
        rw [jF_48]
        refine g_alenS (F := 0) X (8 + S + t) lS_tu (by omega) dL_act_707 ?_
        refine g_if_ne X 713 dL_act_708 (by decide) (fun c_46 => ?_) (fun c_46 => ?_)
        · skip
          have hL0 : ¬ ρ (14 + 3 * t) 2 = 0 := by rw [(hLn t ht).1]; exact c_46
          refine g_iload_n X dL_act_713 5 rfl rfl ?_
          refine g_bipush X (v := 7) dL_act_714 (by decide) ?_
          refine g_ishr X dL_act_716 ?_
          refine g_iconst X (v := 5) dL_act_717 (by decide) ?_
          refine g_below X 5 (by omega) (by omega) kl_L_15 ⟨Nat.le_of_ble_eq_true rfl, Nat.le_of_ble_eq_true rfl⟩ (Nat.le_of_ble_eq_true rfl) dL_act_718 ⟨by show _ ≤ 20; omega, by show _ ≤ 100; omega⟩ (fun kp hkp => ?_)
          refine g_istore X [(6, .int _), (5, .int _), (4, .int _), (3, .int _), (0, .ref _), (1, .ref _), (2, .int _)] dL_act_721 (by decide) rfl ?_
          refine g_widen (k9 := 0 + 3 * 0) (n9 := 0 + 18 * 0) (by omega) (by omega) ?_
          refine g_ls (ls' := [(0, .ref _), (1, .ref _), (3, .int _), (4, .int _), (6, .int _)]) [4, 5, 3, 2, 0] rfl ?_
          refine g_loop (fun _ => True) (fun i => jF 0 z0 (wR S (plI ρ z t i) (plI ρ z t i))) (fun i => [(0, .ref (ad 0)), (1, .ref (ad 48)), (3, .int (nI t)), (4, .int (nI z)), (6, .int (nI kp - nI i))]) (fun i => 0 + 3 * i) (fun i => 0 + 18 * i) (kp + 1) 0 trivial (by omega) (by rw [show nI 0 = 0 from rfl, Int32.sub_zero]) rfl rfl rfl (fun i h0i hi hIi ihi => ?_)
          obtain ⟨ρa, eρa⟩ : ∃ ρz, ρz = plI ρ z t i := ⟨_, rfl⟩
          rw [← eρa]
          obtain ⟨hXi, hAi, hqi, hLi, hni⟩ := ax_plI (k := i) hX hz ht hL0 hLn (by omega)
          rw [← eρa] at hXi hAi hqi hLi hni
          obtain ⟨iT, iT6, iS, iS8, id, idN, iN6, iTu, iSt, iPi, iZ9, iHd⟩ := _root_.id hXi.1
          have iwd : wdF ρa = nI (d % 7) := by unfold wdF; rw [id, nI_clamp (by omega)]
          refine g_iload X dL_act_723 4 rfl ?_
          refine g_if_lt X 753 dL_act_725 (by decide) (fun c_47 => ?_) (fun c_47 => ?_)
          · skip
            refine g_iconst X (v := 1) dL_act_753 (by decide) ?_
            refine g_0F ?_
            exact g_acret X hr hlk (by omega) (by omega) dL_act_754 rfl rfl (Inx_up hXi (by omega) hN) hLi hAi
          · skip
            have hik : i ≤ kp := kp_le hkp hi c_47
            refine g_aload_n X dL_act_728 0 rfl rfl ?_
            refine g_iload X dL_act_729 3 rfl ?_
            refine g_iload_n X dL_act_731 2 rfl rfl ?_
            refine g_yc (F := 0) X hE (gYI_2 (c_X3_play l hl0 D cy ad ρa (N + i) T S d hXi.1 (nI z) (nI t)) (pla_ok iT iT6 iS iS8 hz ht hni)) kl_L_91 ⟨rfl, rfl, Nat.le_of_ble_eq_true rfl, Nat.le_of_ble_eq_true rfl⟩ rfl rfl (Nat.le_of_ble_eq_true rfl) dL_act_732 ⟨by show _ ≤ 20; omega, by show _ ≤ 100; omega⟩ ?_
            refine g_aload_n X dL_act_735 1 rfl rfl ?_
            refine g_iload X dL_act_736 3 rfl ?_
            refine g_iload_n X dL_act_738 2 rfl rfl ?_
            refine g_sc (F := 0) X (c_X4_play l D cy (aS ad) ρa S T Ln z t d hz ht hT6 hS8 (iTu t (by omega)) (hLi t ht) (Inv_pay hXi.1 (by omega) (by omega)) iwd id (by omega) (hXi.2.1 z (by omega)) (fun j hj => (iPi j hj).1)) kl_L_94 ⟨rfl, rfl, Nat.le_of_ble_eq_true rfl, Nat.le_of_ble_eq_true rfl⟩ rfl rfl (Nat.le_of_ble_eq_true rfl) dL_act_739 ⟨by show _ ≤ 20; omega, by show _ ≤ 100; omega⟩ ?_
            refine g_icmp_eq X 747 dL_act_742 (by decide) (fun c_48 => ?_) (fun c_48 => ?_)
            · skip
              refine g_iinc X (_ + -1) [(6, .int _), (0, .ref _), (1, .ref _), (3, .int _), (4, .int _)] 4 dL_act_747 rfl rfl (by decide) rfl ?_
              refine g_goto X 723 dL_act_750 (by decide) ?_
              refine g_ls (ls' := [(0, .ref _), (1, .ref _), (3, .int _), (4, .int _), (6, .int _)]) [1, 2, 3, 4, 0] rfl ?_
              refine g_widen (k9 := (0 + 3 * (i + 1))) (n9 := (0 + 18 * (i + 1))) (by omega) (by omega) ?_
              exact g_eqv (ihi (by omega) trivial) ((by rw [sub1_kp])) (by subst_vars; rfl) rfl rfl
            · exfalso; exact c_48 rfl
        · skip
          refine g_iconst X (v := 1) dL_act_711 (by decide) ?_
          refine g_0F ?_
          exact g_acret X hr hlk (by omega) (by omega) dL_act_712 rfl rfl (Inx_up hX (by omega) hN) hLn Act_rf

