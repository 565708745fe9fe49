/-! Calls of act -/
section BG
variable {p : Program} {l : Launch} {e : Env} {R : Room} {s : State} {m : MethodId} {args : Array Value} {below : List Frame} {meth : Method} {c : Code} {Q : State → Prop}
variable {cc : ByteArray} {nL : Nat} {Ts : List Cond} {own : String} {D : va_G} {cy : Nat → ClassId} {A : Nat → Prop}
variable {n n' : Nat} {ad ad' : Nat → Nat} {cz cz' : Nat → (Nat → Int32) → va_E} {ρ ρ' : gSt} {cells slots pc : Nat} {ls ls' : List (Nat × Value)} {st st0 rest : List Value}
variable {y : MethodName} {rm : Room} {bytes : ByteArray} {maxL nA index mc ms : Nat} {ret : Option FieldType} {C : String} {Tf : u_T} {Nf ci : Nat} {As : List Value}
variable {S T N d F : Nat} {Ln : Nat → Nat} {fa : Nat → Nat} {fz : Nat → (Nat → Int32) → va_E} {φ : gSt}
theorem g_act (X : gX p m c cc nL s args Ts own D cy A) (hl0 : l.stackTraces = false) (hE : gEnv s A) (hZ : zAO s) (hX : Inx ρ N T S d) (hLn : LnOK ρ T Ln) (hN : N + 5 ≤ 600) {x : Int32} (hL : gLkS own index yL_act cL_act 8 (some .boolean) 3) (hR : ({ frames := 8, cells := 20, slots := 100, locals := 134 } : Room).frames + 1 ≤ R.frames ∧ 8 + (8 + 11) + ({ frames := 8, cells := 20, slots := 100, locals := 134 } : Room).locals ≤ R.locals) (hcat : (rest.map fun v => v.category).sum ≤ 8) (hd : decode cc pc = .ok (.invokestatic index, 3)) (hroom : cells + 20 ≤ R.cells ∧ slots + 100 ≤ R.slots) (kk : ∀ u : gU, u.1 0 = ad 0 → u.1 48 = ad 48 → Inx u.2.2.2.2 (N + 5) u.2.2.1 u.2.1 d → LnOK u.2.2.2.2 u.2.2.1 u.2.2.2.1 → Act ρ u.2.2.2.2 → GW p l e R s m args below meth c Q nL D A (nW F u.2.1 u.2.2.1) (jF F fa u.1) (jF F fz (cW u.1 cy u.2.1 u.2.2.1 u.2.2.2.1)) (jF F φ (wR u.2.1 u.2.2.2.2 u.2.2.2.2)) (cells + 20) (slots + 100) (pc + 3) ls (.int 1 :: rest)) : GW p l e R s m args below meth c Q nL D A (nW F S T) (jF F fa ad) (jF F fz (cW ad cy S T Ln)) (jF F φ (wR S ρ ρ)) cells slots pc ls (.int x :: .ref (ad 48) :: .ref (ad 0) :: rest) := by
  intro H locs la hP hD hS hl
  have hs : gSub (nW F S T) (jF F fa ad) (jF F fz (cW ad cy S T Ln)) F (48 + (8 + S + T)) ad (cW ad cy S T Ln) := sub_F
  have hfree := gA_sub hs hD hS X.2.2.1
  have hPs : va_P D vwCl (gWl (48 + (8 + S + T)) ad (cW ad cy S T Ln) (wR S ρ ρ)) H := by
    have h := gP_sub hs hP
    have e : (fun j => jF F φ (wR S ρ ρ) (F + j)) = wR S ρ ρ := by funext j; exact jF_hi
    rw [e] at h
    exact h
  refine va_calli (va_runS (As := [.ref (ad 0), .ref (ad 48), .int x]) X.1 (c_L_act l hl0 D cy ad ρ S T N d Ln hX hLn hN x H.size) (gCwS X.1.2.2.2.2 X.2.2.2.1 hL ⟨rfl, rfl, hR⟩) ⟨gPw_blind, fun U hU hW => ⟨rfl, by rw [hU], by rw [hU]; exact hPs, va_K.moved hW.alike X.2.1, gInj_sub hs (gD_inj hD), gNst_warm hW X.2.2.2.2, gEnv_at hE hW hU hS hfree, zAO.moved hW.alike hZ⟩⟩ rfl rfl hl.1 rfl (lv_room hcat) hd hroom) hS (fun q _ h => hfree q h) hfree (fun r u t H1 locs1 ht hvm hw hB hz1 hk1 hS1 => ?_)
  obtain ⟨rfl, ⟨h0, h48⟩, hX1, hLn1, hA1⟩ := hw
  obtain ⟨hP1, hD1⟩ := hB
  rw [ht] at hP1
  have hfr : ∀ k, k < F → fa k < H.size ∧ ¬ gA (48 + (8 + S + T)) ad H.size (fa k) := fun k hk => by
    have hlt : jF F fa ad k < H.size := (hP k _ (gWl_get (by show k < F + (48 + (8 + S + T)); omega))).lt
    rw [jF_lo hk] at hlt
    refine ⟨hlt, ?_⟩
    rintro (⟨j, hj, e⟩ | h)
    · have := gD_inj hD k (F + j) (by show k < F + (48 + (8 + S + T)); omega) (by show F + j < F + (48 + (8 + S + T)); omega) (by rw [jF_lo hk, jF_hi]; exact e)
      omega
    · exact absurd hlt (Nat.not_lt.mpr h)
  refine kk u h0 h48 hX1 hLn1 hA1 H1 locs1 la (fun k q hq => ?_) (gD_of (fun i j hi hj h => ?_) (fun k hk => ?_)) hS1 hl
  · obtain ⟨hk, rfl⟩ := gWl_out hq
    by_cases h : k < F
    · have h9 := hP k _ (gWl_get (by show k < F + (48 + (8 + S + T)); omega))
      rw [jF_lo h, jF_lo h, jF_lo h] at h9
      rw [jF_lo h, jF_lo h, jF_lo h]
      exact h9.kept (hk1 _ (hfr k h).1 (hfr k h).2)
    · obtain ⟨j, rfl⟩ : ∃ j, k = F + j := ⟨k - F, by omega⟩
      rw [jF_hi, jF_hi, jF_hi]
      exact hP1 j _ (gWl_get (by have hk : F + j < F + (48 + (8 + u.2.1 + u.2.2.1)) := hk; omega))
  · have hi : i < F + (48 + (8 + u.2.1 + u.2.2.1)) := hi
    have hj : j < F + (48 + (8 + u.2.1 + u.2.2.1)) := hj
    have hnew : ∀ y, y < (48 + (8 + u.2.1 + u.2.2.1)) → gA (48 + (8 + S + T)) ad H.size (u.1 y) := fun y hy => hD1.2 y _ (gWl_get hy)
    by_cases q1 : i < F
    · by_cases q2 : j < F
      · rw [jF_lo q1, jF_lo q2] at h
        exact gD_inj hD i j (by show i < F + (48 + (8 + S + T)); omega) (by show j < F + (48 + (8 + S + T)); omega) (by rw [jF_lo q1, jF_lo q2]; exact h)
      · obtain ⟨y, rfl⟩ : ∃ y, j = F + y := ⟨j - F, by omega⟩
        rw [jF_lo q1, jF_hi] at h
        exact absurd (h ▸ hnew y (by omega)) (hfr i q1).2
    · obtain ⟨y, rfl⟩ : ∃ y, i = F + y := ⟨i - F, by omega⟩
      by_cases q2 : j < F
      · rw [jF_lo q2, jF_hi] at h
        exact absurd (h ▸ hnew y (by omega)) (hfr j q2).2
      · obtain ⟨w, rfl⟩ : ∃ w, j = F + w := ⟨j - F, by omega⟩
        rw [jF_hi, jF_hi] at h
        have := gD_inj hD1 y w (by omega) (by omega) h
        omega
  · have hk : k < F + (48 + (8 + u.2.1 + u.2.2.1)) := hk
    by_cases q1 : k < F
    · rw [jF_lo q1]
      have := gD_in hD (k := k) (by show k < F + (48 + (8 + S + T)); omega)
      rw [jF_lo q1] at this
      exact this
    · obtain ⟨y, rfl⟩ : ∃ y, k = F + y := ⟨k - F, by omega⟩
      rw [jF_hi]
      exact hfree _ (hD1.2 y _ (gWl_get (by omega)))
end BG
section BH
variable {p : Program} {l : Launch} {e : Env} {R : Room} {s : State} {m : MethodId} {args : Array Value} {below : List Frame} {meth : Method} {c : Code} {Q : State → Prop}
variable {cc : ByteArray} {nL : Nat} {Ts : List Cond} {own : String} {D : va_G} {cy : Nat → ClassId} {A : Nat → Prop}
theorem g_bret {ad0 ad : Nat → Nat} {S T pc mc ms cells slots : Nat} {Ln : Nat → Nat} {ρ : gSt} {ls : List (Nat × Value)} (X : gX p m c cc nL s args Ts own D cy A) {rt : String} (hr : meth.sig.returnType = some (.object rt)) (hlocks : meth.locks = false) (h0 : ad 0 = ad0 0) (hX : Inx ρ 240 T S 3) (hLn : LnOK ρ T Ln) (hc : cells ≤ mc) (hs : slots ≤ ms) (hd : decode cc pc = .ok (.areturn, 1)) : GW p l e R s m args below meth c (MQ below (va_Qr (fun u : gU => u.1 0 = ad0 0 ∧ Inx u.2.2.2.2 240 u.2.2.1 u.2.1 3 ∧ LnOK u.2.2.2.2 u.2.2.1 u.2.2.2.1) (fun u a t => a = u.1 48 ∧ actB D cy A u t) A) args s mc ms A) nL D A (48 + (8 + S + T)) ad (cW ad cy S T Ln) (wR S ρ ρ) cells slots pc ls [.ref (ad 48)] := fun H locs la hP hD hS hl => W.widen hc hs (W.aret X.1.1 X.1.2.1 hr (Or.inl ⟨_, rfl⟩) (Or.inr ⟨_, rfl⟩) (fun t ht hW => ⟨⟨(ad, S, T, Ln, ρ), ad 48, rfl, ⟨h0, hX, hLn⟩, rfl, by show va_P D vwCl (uW cy (ad, S, T, Ln, ρ)) t.heap; rw [ht]; exact hP, hD⟩, hS.F ht⟩) hS.2.2 hd hlocks)
set_option maxHeartbeats 4000000 in
set_option maxRecDepth 100000 in
theorem build_loop {ad0 : Nat → Nat} {b L : Nat} {xs : Nat → Int32} (X : gX p m c cL_build 6 s args Ts RL D cy A) (hl0 : l.stackTraces = false) (hE : gEnv s A) (hZ : zAO s) (hSX : va_X b L xs s s.heap) (hbl : b < s.heap.size) (hbA : ¬ A b) (hLL : L ≤ 260) (hr : meth.sig.returnType = some (.object "StreetOrgansLaw$Sim")) (hlk : meth.locks = false) : ∀ (f i : Nat), i + f = 40 → ∀ (ad : Nat → Nat) (S T : Nat) (Ln : Nat → Nat) (ρ : gSt), ad 0 = ad0 0 → Inx ρ (6 * i) T S (i / 13) → LnOK ρ T Ln → GW p l e { frames := 9, cells := 1000, slots := 5000, locals := 161 } s m args below meth c (MQ below (va_Qr (fun u : gU => u.1 0 = ad0 0 ∧ Inx u.2.2.2.2 240 u.2.2.1 u.2.1 3 ∧ LnOK u.2.2.2.2 u.2.2.1 u.2.2.2.1) (fun u a t => a = u.1 48 ∧ actB D cy A u t) A) args s 1000 5000 A) 6 D A (48 + (8 + S + T)) ad (cW ad cy S T Ln) (wR S ρ ρ) (10 + 24 * i) (100 + 120 * i) 10 [(0, .ref (ad 0)), (1, .ref b), (2, .ref (ad 48)), (3, .int (nI i))] [] := by
  intro f
  induction f with
  | zero =>
    intro i hi ad S T Ln ρ h0 hX hLn
    refine g_F0 (fa := fun _ => 0) (fz := fun _ _ => .inr (0, [])) (φ := z0) ?_
    refine g_iload_n X dL_build_10 3 rfl rfl ?_
    refine g_bipush X (v := 40) dL_build_11 (by decide) ?_
    refine g_icmp_geN X i 40 129 (by omega) (by omega) dL_build_13 (by decide) (fun h => ?_) (fun h => ?_)
    · refine g_0F ?_
      refine g_aload_n X dL_build_129 2 rfl rfl ?_
      obtain rfl : i = 40 := by omega
      exact g_bret X hr hlk h0 (Inx_up hX (by omega) (by omega)) hLn (by omega) (by omega) dL_build_130
    · omega
  | succ f ih9 =>
    intro i hi ad S T Ln ρ h0 hX hLn
    have ih : ∀ i' : Nat, i' = i + 1 → ∀ (ad : Nat → Nat) (S T : Nat) (Ln : Nat → Nat) (ρ : gSt), ad 0 = ad0 0 → Inx ρ (6 * i') T S (i' / 13) → LnOK ρ T Ln → GW p l e { frames := 9, cells := 1000, slots := 5000, locals := 161 } s m args below meth c (MQ below (va_Qr (fun u : gU => u.1 0 = ad0 0 ∧ Inx u.2.2.2.2 240 u.2.2.1 u.2.1 3 ∧ LnOK u.2.2.2.2 u.2.2.1 u.2.2.2.1) (fun u a t => a = u.1 48 ∧ actB D cy A u t) A) args s 1000 5000 A) 6 D A (48 + (8 + S + T)) ad (cW ad cy S T Ln) (wR S ρ ρ) (10 + 24 * i') (100 + 120 * i') 10 [(0, .ref (ad 0)), (1, .ref b), (2, .ref (ad 48)), (3, .int (nI i'))] [] := fun i' h => ih9 i' (by omega)
    refine g_F0 (fa := fun _ => 0) (fz := fun _ _ => .inr (0, [])) (φ := z0) ?_
    refine g_iload_n X dL_build_10 3 rfl rfl ?_
    refine g_bipush X (v := 40) dL_build_11 (by decide) ?_
    refine g_icmp_geN X i 40 129 (by omega) (by omega) dL_build_13 (by decide) (fun c_1 => ?_) (fun c_1 => ?_)
    · skip
      refine g_0F ?_
      refine g_aload_n X dL_build_129 2 rfl rfl ?_
      obtain rfl : i = 40 := by omega
      exact g_bret X hr hlk h0 (Inx_up hX (by omega) (by omega)) hLn (by omega) (by omega) dL_build_130
    · skip
      refine g_aload_n X dL_build_16 1 rfl rfl ?_
      refine g_iload_n X dL_build_17 3 rfl rfl ?_
      refine g_bipush X (v := 16) dL_build_18 (by decide) ?_
      refine g_irem X dL_build_20 (by decide) ?_
      rw [show nI i - nI i / 16 * 16 = nI (i % 16) from pk_rem (d := 16) (by omega) (by omega) (by omega)]
      refine g_cell X hSX hbl hbA (by omega) hLL kl_L_96 ⟨Nat.le_of_ble_eq_true rfl, Nat.le_of_ble_eq_true rfl⟩ (Nat.le_of_ble_eq_true rfl) dL_build_21 ⟨by show _ ≤ 1000; omega, by show _ ≤ 5000; omega⟩ (fun xc_2 => ?_)
      refine g_iload_n X dL_build_24 3 rfl rfl ?_
      refine g_bipush X (v := 16) dL_build_25 (by decide) ?_
      refine g_idiv X dL_build_27 (by decide) ?_
      refine g_iconst X (v := 5) dL_build_28 (by decide) ?_
      refine g_imul X dL_build_29 ?_
      refine g_ishr X dL_build_30 ?_
      refine g_bipush X (v := 61) dL_build_31 (by decide) ?_
      refine g_iload_n X dL_build_33 3 rfl rfl ?_
      refine g_imul X dL_build_34 ?_
      refine g_iadd X dL_build_35 ?_
      refine g_istore X [(4, .int _), (0, .ref _), (1, .ref _), (2, .ref _), (3, .int _)] dL_build_36 (by decide) rfl ?_
      refine g_joinP 66 (fun v9 : Int32 => True) (fun kj_3 => ?_) (fun xf hxf => ?_)
      · skip
        refine g_iload_n X dL_build_38 4 rfl rfl ?_
        refine g_iconst X (v := 4) dL_build_39 (by decide) ?_
        refine g_icmp_geN X i 4 51 (by omega) (by omega) dL_build_40 (by decide) (fun c_4 => ?_) (fun c_4 => ?_)
        · skip
          refine g_iload_n X dL_build_51 4 rfl rfl ?_
          refine g_bipush X (v := 10) dL_build_52 (by decide) ?_
          refine g_icmp_geN X i 10 65 (by omega) (by omega) dL_build_54 (by decide) (fun c_5 => ?_) (fun c_5 => ?_)
          · skip
            refine g_iconst X (v := -1) dL_build_65 (by decide) ?_
            exact kj_3 _ (trivial)
          · skip
            refine g_iconst X (v := 1) dL_build_57 (by decide) ?_
            refine g_iload_n X dL_build_58 4 rfl rfl ?_
            refine g_iconst X (v := 3) dL_build_59 (by decide) ?_
            refine g_irem X dL_build_60 (by decide) ?_
            refine g_iadd X dL_build_61 ?_
            refine g_goto X 66 dL_build_62 (by decide) ?_
            exact kj_3 _ (trivial)
        · skip
          refine g_iload_n X dL_build_43 4 rfl rfl ?_
          refine g_iconst X (v := 2) dL_build_44 (by decide) ?_
          refine g_irem X dL_build_45 (by decide) ?_
          refine g_iconst X (v := 4) dL_build_46 (by decide) ?_
          refine g_imul X dL_build_47 ?_
          refine g_goto X 66 dL_build_48 (by decide) ?_
          exact kj_3 _ (trivial)
      refine g_istore X [(5, .int _), (4, .int _), (0, .ref _), (1, .ref _), (2, .ref _), (3, .int _)] dL_build_66 (by decide) rfl ?_
      refine g_iload X dL_build_68 0 rfl ?_
      refine g_if_lt X 88 dL_build_70 (by decide) (fun c_6 => ?_) (fun c_6 => ?_)
      · skip
        refine g_aload_n X dL_build_88 2 rfl rfl ?_
        refine g_aload_n X dL_build_89 4 rfl rfl ?_
        refine g_iload X dL_build_90 1 rfl ?_
        refine g_act (F := 0) X hl0 hE hZ hX hLn (by omega) kl_L_101 ⟨Nat.le_of_ble_eq_true rfl, Nat.le_of_ble_eq_true rfl⟩ (Nat.le_of_ble_eq_true rfl) dL_build_92 ⟨by show _ ≤ 1000; omega, by show _ ≤ 5000; omega⟩ (fun u hu0 hu48 hX9 hLn9 hAc9 => ?_)
        rw [← hu0, ← hu48]
        obtain ⟨N, hNe⟩ : ∃ N, N = 6 * i + 5 := ⟨_, rfl⟩
        obtain ⟨d, hde⟩ : ∃ d, d = i / 13 := ⟨_, rfl⟩
        rw [← hNe, ← hde] at hX9
        obtain ⟨ad, S, T, Ln, ρ⟩ := u
        have hX := hX9
        have hLn := hLn9
        clear hX9 hLn9
        obtain ⟨hT, hT6, hS, hS8, hd, hdN, hN6, hTu0, hSt, hPi, hZ9, hHd⟩ := id hX.1
        have hI := hX.1
        refine g_if_ne X 100 dL_build_95 (by decide) (fun c_7 => ?_) (fun c_7 => ?_)
        · skip
          refine g_iload_n X dL_build_100 5 rfl rfl ?_
          refine g_bipush X (v := 13) dL_build_101 (by decide) ?_
          refine g_irem X dL_build_103 (by decide) ?_
          rw [show nI i - nI i / 13 * 13 = nI (i % 13) from pk_rem (d := 13) (by omega) (by omega) (by omega)]
          refine g_bipush X (v := 12) dL_build_104 (by decide) ?_
          refine g_icmp_neN X (i % 13) 12 123 (by omega) (by omega) dL_build_106 (by decide) (fun c_8 => ?_) (fun c_8 => ?_)
          · skip
            refine g_iincN X i 3 [(3, .int _), (5, .int _), (4, .int _), (0, .ref _), (1, .ref _), (2, .ref _)] 5 dL_build_123 rfl (by decide) rfl ?_
            refine g_goto X 10 dL_build_126 (by decide) ?_
            refine g_0F ?_
            refine g_ls (ls' := [(0, .ref _), (1, .ref _), (2, .ref _), (3, .int _)]) [3, 4, 5, 0] rfl ?_
            refine g_widen (k9 := 10 + 24 * (i + 1)) (n9 := 100 + 120 * (i + 1)) (by omega) (by omega) ?_
            exact ih (i + 1) (by omega) _ _ _ _ _ (hu0.trans h0) (by rw [show (i + 1) / 13 = d by omega]; exact Inx_up hX (by omega) (by omega)) hLn
          · skip
            refine g_aload_n X dL_build_109 2 rfl rfl ?_
            refine g_iconst X (v := 1) dL_build_110 (by decide) ?_
            refine g_yc (F := 0) X hE (gYI_1 (c_X3_rest l hl0 D cy ad ρ N T S d hI 1) (res_ok hd (by omega))) kl_L_105 ⟨rfl, rfl, Nat.le_of_ble_eq_true rfl, Nat.le_of_ble_eq_true rfl⟩ rfl rfl (Nat.le_of_ble_eq_true rfl) dL_build_111 ⟨by show _ ≤ 1000; omega, by show _ ≤ 5000; omega⟩ ?_
            refine g_aload_n X dL_build_114 4 rfl rfl ?_
            refine g_sc (F := 0) X (c_X4_rest l D cy (aS ad) ρ S T Ln d hd (by omega) hS8 hS hPi) kl_L_108 ⟨rfl, rfl, Nat.le_of_ble_eq_true rfl, Nat.le_of_ble_eq_true rfl⟩ rfl rfl (Nat.le_of_ble_eq_true rfl) dL_build_115 ⟨by show _ ≤ 1000; omega, by show _ ≤ 5000; omega⟩ ?_
            refine g_icmp_eq X 123 dL_build_118 (by decide) (fun c_9 => ?_) (fun c_9 => ?_)
            · skip
              refine g_iincN X i 3 [(3, .int _), (5, .int _), (4, .int _), (0, .ref _), (1, .ref _), (2, .ref _)] 5 dL_build_123 rfl (by decide) rfl ?_
              refine g_goto X 10 dL_build_126 (by decide) ?_
              refine g_0F ?_
              refine g_ls (ls' := [(0, .ref _), (1, .ref _), (2, .ref _), (3, .int _)]) [3, 4, 5, 0] rfl ?_
              refine g_widen (k9 := 10 + 24 * (i + 1)) (n9 := 100 + 120 * (i + 1)) (by omega) (by omega) ?_
              exact ih (i + 1) (by omega) _ _ _ _ _ (hu0.trans h0) (by rw [show (i + 1) / 13 = d + 1 by omega]; exact Inx_up (ax_res hX (by omega)) (by omega) (by omega)) (Ln_cg hLn (fun t ht => resR_o hS8 hS (by omega) (by omega) (by omega)))
            · exfalso; exact c_9 rfl
        · exfalso; exact absurd c_7 (by decide)
      · skip
        refine g_iload X dL_build_73 1 rfl ?_
        refine g_ldc X kK_L_100 dL_build_75 ?_
        refine g_below X 100000 (by omega) (by omega) kl_L_15 ⟨Nat.le_of_ble_eq_true rfl, Nat.le_of_ble_eq_true rfl⟩ (Nat.le_of_ble_eq_true rfl) dL_build_77 ⟨by show _ ≤ 1000; omega, by show _ ≤ 5000; omega⟩ (fun k_10 hk_10 => ?_)
        refine g_bipush X (v := 13) dL_build_80 (by decide) ?_
        refine g_imul X dL_build_82 ?_
        refine g_iload X dL_build_83 0 rfl ?_
        refine g_iadd X dL_build_85 ?_
        refine g_istore X [(4, .int _), (5, .int _), (0, .ref _), (1, .ref _), (2, .ref _), (3, .int _)] dL_build_86 (by decide) rfl ?_
        refine g_aload_n X dL_build_88 2 rfl rfl ?_
        refine g_aload_n X dL_build_89 4 rfl rfl ?_
        refine g_iload X dL_build_90 0 rfl ?_
        refine g_act (F := 0) X hl0 hE hZ hX hLn (by omega) kl_L_101 ⟨Nat.le_of_ble_eq_true rfl, Nat.le_of_ble_eq_true rfl⟩ (Nat.le_of_ble_eq_true rfl) dL_build_92 ⟨by show _ ≤ 1000; omega, by show _ ≤ 5000; omega⟩ (fun u hu0 hu48 hX9 hLn9 hAc9 => ?_)
        rw [← hu0, ← hu48]
        obtain ⟨N, hNe⟩ : ∃ N, N = 6 * i + 5 := ⟨_, rfl⟩
        obtain ⟨d, hde⟩ : ∃ d, d = i / 13 := ⟨_, rfl⟩
        rw [← hNe, ← hde] at hX9
        obtain ⟨ad, S, T, Ln, ρ⟩ := u
        have hX := hX9
        have hLn := hLn9
        clear hX9 hLn9
        obtain ⟨hT, hT6, hS, hS8, hd, hdN, hN6, hTu0, hSt, hPi, hZ9, hHd⟩ := id hX.1
        have hI := hX.1
        refine g_if_ne X 100 dL_build_95 (by decide) (fun c_11 => ?_) (fun c_11 => ?_)
        · skip
          refine g_iload_n X dL_build_100 5 rfl rfl ?_
          refine g_bipush X (v := 13) dL_build_101 (by decide) ?_
          refine g_irem X dL_build_103 (by decide) ?_
          rw [show nI i - nI i / 13 * 13 = nI (i % 13) from pk_rem (d := 13) (by omega) (by omega) (by omega)]
          refine g_bipush X (v := 12) dL_build_104 (by decide) ?_
          refine g_icmp_neN X (i % 13) 12 123 (by omega) (by omega) dL_build_106 (by decide) (fun c_12 => ?_) (fun c_12 => ?_)
          · skip
            refine g_iincN X i 3 [(3, .int _), (4, .int _), (5, .int _), (0, .ref _), (1, .ref _), (2, .ref _)] 5 dL_build_123 rfl (by decide) rfl ?_
            refine g_goto X 10 dL_build_126 (by decide) ?_
            refine g_0F ?_
            refine g_ls (ls' := [(0, .ref _), (1, .ref _), (2, .ref _), (3, .int _)]) [3, 4, 5, 0] rfl ?_
            refine g_widen (k9 := 10 + 24 * (i + 1)) (n9 := 100 + 120 * (i + 1)) (by omega) (by omega) ?_
            exact ih (i + 1) (by omega) _ _ _ _ _ (hu0.trans h0) (by rw [show (i + 1) / 13 = d by omega]; exact Inx_up hX (by omega) (by omega)) hLn
          · skip
            refine g_aload_n X dL_build_109 2 rfl rfl ?_
            refine g_iconst X (v := 1) dL_build_110 (by decide) ?_
            refine g_yc (F := 0) X hE (gYI_1 (c_X3_rest l hl0 D cy ad ρ N T S d hI 1) (res_ok hd (by omega))) kl_L_105 ⟨rfl, rfl, Nat.le_of_ble_eq_true rfl, Nat.le_of_ble_eq_true rfl⟩ rfl rfl (Nat.le_of_ble_eq_true rfl) dL_build_111 ⟨by show _ ≤ 1000; omega, by show _ ≤ 5000; omega⟩ ?_
            refine g_aload_n X dL_build_114 4 rfl rfl ?_
            refine g_sc (F := 0) X (c_X4_rest l D cy (aS ad) ρ S T Ln d hd (by omega) hS8 hS hPi) kl_L_108 ⟨rfl, rfl, Nat.le_of_ble_eq_true rfl, Nat.le_of_ble_eq_true rfl⟩ rfl rfl (Nat.le_of_ble_eq_true rfl) dL_build_115 ⟨by show _ ≤ 1000; omega, by show _ ≤ 5000; omega⟩ ?_
            refine g_icmp_eq X 123 dL_build_118 (by decide) (fun c_13 => ?_) (fun c_13 => ?_)
            · skip
              refine g_iincN X i 3 [(3, .int _), (4, .int _), (5, .int _), (0, .ref _), (1, .ref _), (2, .ref _)] 5 dL_build_123 rfl (by decide) rfl ?_
              refine g_goto X 10 dL_build_126 (by decide) ?_
              refine g_0F ?_
              refine g_ls (ls' := [(0, .ref _), (1, .ref _), (2, .ref _), (3, .int _)]) [3, 4, 5, 0] rfl ?_
              refine g_widen (k9 := 10 + 24 * (i + 1)) (n9 := 100 + 120 * (i + 1)) (by omega) (by omega) ?_
              exact ih (i + 1) (by omega) _ _ _ _ _ (hu0.trans h0) (by rw [show (i + 1) / 13 = d + 1 by omega]; exact Inx_up (ax_res hX (by omega)) (by omega) (by omega)) (Ln_cg hLn (fun t ht => resR_o hS8 hS (by omega) (by omega) (by omega)))
            · exfalso; exact c_13 rfl
        · exfalso; exact absurd c_11 (by decide)
end BH
