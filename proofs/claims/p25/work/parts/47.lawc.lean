/-! The law: act -/
theorem law_q {c0 f0 p0 c1 f1 p1 : Int32} (h : c1 + f1 - p1 = c0 + f0 - p0 ∨ c1 + f1 - p1 = c0 + f0 - p0 - 4) : c0 + p1 - p0 - (f1 - f0) - c1 = 0 ∨ c0 + p1 - p0 - (f1 - f0) - c1 = 4 := by
  rcases h with h | h
  · exact Or.inl (by grind)
  · exact Or.inr (by grind)
theorem act_crc {ρ σ : gSt} (h : Act ρ σ) (hPi : ∀ i, i < 12 → pipI ρ 1 i) : ¬ crc ρ 1 < crc σ 1 := by
  rcases h.2.2 with h | h
  · rw [show crc σ 1 = crc ρ 1 from sumI_congr (fun j _ => by show b01 (σ 4 j) = b01 (ρ 4 j); rw [h j])]
    exact Int32.lt_irrefl
  · have e : crc σ 1 = 0 := (sumI_congr (g := fun _ => 0) (fun j hj => by show b01 (σ 4 j) = 0; rw [h j hj]; rfl)).trans sumI_z
    obtain ⟨q, hq, eq⟩ := sumI_N (f := fun j => b01 (ρ (1 + 3) j)) (M := 1) (k := 12) (fun j hj => by
      show ∃ u : Nat, u ≤ 1 ∧ b01 (ρ (1 + 3) j) = nI u
      unfold b01
      by_cases h0 : ρ (1 + 3) j = 0
      · rw [if_pos h0]
        exact ⟨0, by omega, rfl⟩
      · rw [if_neg h0]
        exact ⟨1, by omega, rfl⟩)
    rw [e, show crc ρ 1 = nI q from eq]
    exact (inl_of (t := q) (T := 12) (by omega) (by omega)).1
theorem coin_ge {ρ : gSt} {N T S d : Nat} (hX : Inx ρ N T S d) : 0 ≤ ρ 0 8 := by
  obtain ⟨c, hc, ec⟩ := hX.2.2.2.1
  have := hX.1.2.2.2.2.2.2.1
  rw [ec]
  exact Int32.not_lt.mp (inl_of (t := c) (T := c) (Nat.le_refl _) (by omega)).1
section LGC
variable {p : Program} {l : Launch} {e : Env} {s : State} {m : MethodId} {args : Array Value} {below : List Frame} {meth : Method} {c : Code} {Q : State → Prop}
variable {Ts : List Cond} {D : va_G} {cy : Nat → ClassId} {A : Nat → Prop}
variable {ad : Nat → Nat} {ρ : gSt} {C1 S1 : Nat} {S T N d i b : Nat} {Ln : Nat → Nat} {x : Int32}
variable {c0 f0 p0 d0 k0 : Int32}
theorem law_t0 (X : gX p m c cL_law 23 s args Ts RL D cy A) (hl0 : l.stackTraces = false) (hE : gEnv s A) (hZ : zAO s) (hX : Inx ρ N T S d) (hLn : LnOK ρ T Ln) (hN9 : N < 600) (hc1 : C1 + 2500 ≤ 600172) (hs1 : S1 + 15000 ≤ 7300668) (kk : ∀ ρ : gSt, Inx ρ (N + 1) T S d → LnOK ρ T Ln → GW p l e { frames := 12, cells := 600172, slots := 7300668, locals := 442 } s m args below meth c Q 23 D A (48 + (8 + S + T)) ad (cW ad cy S T Ln) (wR S ρ ρ) (C1 + 2500) (S1 + 15000) 1106 [(0, .ref b), (1, .ref (ad 0)), (2, .ref (ad 48)), (3, .int (nI i))] []) : GW p l e { frames := 12, cells := 600172, slots := 7300668, locals := 442 } s m args below meth c Q 23 D A (48 + (8 + S + T)) ad (cW ad cy S T Ln) (wR S ρ ρ) C1 S1 710 [(0, .ref b), (1, .ref (ad 0)), (2, .ref (ad 48)), (3, .int (nI i)), (4, .int x), (12, .int (nI T)), (13, .int (nI S))] [] := by
  refine g_iconst X (v := nI 0) dL_law_710 (by decide) ?_
  refine g_istore X [(17, .int (nI 0)), (0, .ref b), (1, .ref (ad 0)), (2, .ref (ad 48)), (3, .int (nI i)), (4, .int x), (12, .int (nI T)), (13, .int (nI S))] dL_law_711 (by decide) rfl ?_
  refine g_ls (ls' := [(0, .ref _), (1, .ref _), (2, .ref _), (3, .int _), (4, .int _), (12, .int _), (13, .int _), (17, .int _)]) [1, 2, 3, 4, 5, 6, 7, 0] rfl ?_
  refine g_widen (k9 := C1 + 400 * 0) (n9 := S1 + 2400 * 0) (by omega) (by omega) ?_
  refine law_E (ρ0 := ρ) (C1 := C1) (S1 := S1) X hl0 hE hZ hLn hX.1.2.1 (by omega) (by omega) (fun ρ' hA hX' => ?_) T 0 (by omega) ρ Apart.rf hX
  exact law_F (C1 := C1 + 2400) (S1 := S1 + 14400) X hl0 hE hZ hX' (hA.ln hLn) (by omega) (by omega) hN9 kk

set_option maxHeartbeats 4000000 in
set_option maxRecDepth 100000 in
theorem law_G (X : gX p m c cL_law 23 s args Ts RL D cy A) (hl0 : l.stackTraces = false) (hE : gEnv s A) (hZ : zAO s) (hX : Inx ρ N T S d) (hLn : LnOK ρ T Ln) (hc1 : C1 + 3000 ≤ 600172) (hs1 : S1 + 18000 ≤ 7300668) (hN9 : N < 600) (kk : ∀ ρ : gSt, Inx ρ (N + 1) T S d → LnOK ρ T Ln → GW p l e { frames := 12, cells := 600172, slots := 7300668, locals := 442 } s m args below meth c Q 23 D A (48 + (8 + S + T)) ad (cW ad cy S T Ln) (wR S ρ ρ) (C1 + 2910) (S1 + 17460) 1106 [(0, .ref b), (1, .ref (ad 0)), (2, .ref (ad 48)), (3, .int (nI i))] []) : GW p l e { frames := 12, cells := 600172, slots := 7300668, locals := 442 } s m args below meth c Q 23 D A (48 + (8 + S + T)) ad (cW ad cy S T Ln) (wR S ρ ρ) C1 S1 586 [(0, .ref b), (1, .ref (ad 0)), (2, .ref (ad 48)), (3, .int (nI i)), (4, .int x)] [] := by
  obtain ⟨hT, hT6, hS, hS8, hd, hdN, hN, hTu0, hSt, hPi, hZ9, hHd⟩ := id hX.1
  have hI := hX.1
  have hTu : ∀ t, t < T → tunI ρ t := fun t ht => hTu0 t (by omega)
  have hwd : wdF ρ = nI (d % 7) := by unfold wdF; rw [hd, nI_clamp (by omega)]
  refine g_F0 (fa := fun _ => 0) (fz := fun _ _ => .inr (0, [])) (φ := z0) ?_
  refine g_aload_n X dL_law_586 1 rfl rfl ?_
  refine g_iconst X (v := 3) dL_law_587 (by decide) ?_
  refine g_yc (F := 0) X hE (gYI_1 (c_X3_count l hl0 D cy ad ρ N T S d hI (nI 3)) (cou_ok (w := 3) (by omega))) kl_L_118 ⟨rfl, rfl, Nat.le_of_ble_eq_true rfl, Nat.le_of_ble_eq_true rfl⟩ rfl rfl (Nat.le_of_ble_eq_true rfl) dL_law_588 ⟨by show _ ≤ 600172; omega, by show _ ≤ 7300668; omega⟩ ?_
  rw [show countF ρ 3 = nI T from hT]
  refine g_istore X [(12, .int _), (0, .ref _), (1, .ref _), (2, .ref _), (3, .int _), (4, .int _)] dL_law_591 (by decide) rfl ?_
  refine g_aload_n X dL_law_593 2 rfl rfl ?_
  refine g_iconst X (v := 4) dL_law_594 (by decide) ?_
  refine g_yc (F := 0) X hE (gYI_1 (c_X3_count l hl0 D cy ad ρ N T S d hI (nI 4)) (cou_ok (w := 4) (by omega))) kl_L_118 ⟨rfl, rfl, Nat.le_of_ble_eq_true rfl, Nat.le_of_ble_eq_true rfl⟩ rfl rfl (Nat.le_of_ble_eq_true rfl) dL_law_595 ⟨by show _ ≤ 600172; omega, by show _ ≤ 7300668; omega⟩ ?_
  rw [show countF ρ 4 = nI S from hS]
  refine g_istore X [(13, .int _), (12, .int _), (0, .ref _), (1, .ref _), (2, .ref _), (3, .int _), (4, .int _)] dL_law_598 (by decide) rfl ?_
  refine g_0F ?_
  refine g_ls (ls' := [(0, .ref _), (1, .ref _), (2, .ref _), (3, .int _), (4, .int _), (12, .int _), (13, .int _)]) [2, 3, 4, 5, 6, 1, 0] rfl ?_
  exact g_widen (k9 := C1 + 10) (n9 := S1 + 60) (by omega) (by omega) (law_D (C1 := C1 + 10) (S1 := S1 + 60) X hl0 hE hZ hX hLn (by omega) (by omega) (law_t0 X hl0 hE hZ hX hLn hN9 (C1 := C1 + 410) (S1 := S1 + 2460) (by omega) (by omega) kk))

set_option maxHeartbeats 4000000 in
set_option maxRecDepth 100000 in
theorem law_C (X : gX p m c cL_law 23 s args Ts RL D cy A) (hl0 : l.stackTraces = false) (hE : gEnv s A) (hZ : zAO s) (hX : Inx ρ N T S d) (hLn : LnOK ρ T Ln) (hc1 : C1 + 200 ≤ 600172) (hs1 : S1 + 1200 ≤ 7300668) (hN9 : N + 5 ≤ 600) (hq0 : qv ρ = c0 + f0 - p0) (hd0 : ρ 0 7 = d0) (hk0 : crc ρ 1 = k0) (kk : ∀ (u : gU) (d : Nat), u.1 0 = ad 0 → u.1 48 = ad 48 → Inx u.2.2.2.2 (N + 5) u.2.2.1 u.2.1 d → LnOK u.2.2.2.2 u.2.2.1 u.2.2.2.1 → GW p l e { frames := 12, cells := 600172, slots := 7300668, locals := 442 } s m args below meth c Q 23 D A (48 + (8 + u.2.1 + u.2.2.1)) u.1 (cW u.1 cy u.2.1 u.2.2.1 u.2.2.2.1) (wR u.2.1 u.2.2.2.2 u.2.2.2.2) (C1 + 200) (S1 + 1200) 586 [(0, .ref b), (1, .ref (u.1 0)), (2, .ref (u.1 48)), (3, .int (nI i)), (4, .int x)] []) : GW p l e { frames := 12, cells := 600172, slots := 7300668, locals := 442 } s m args below meth c Q 23 D A (48 + (8 + S + T)) ad (cW ad cy S T Ln) (wR S ρ ρ) C1 S1 470 [(0, .ref b), (1, .ref (ad 0)), (2, .ref (ad 48)), (3, .int (nI i)), (4, .int x), (8, .int c0), (9, .int f0), (10, .int d0), (11, .int k0), (14, .int p0)] [] := by
  obtain ⟨hT, hT6, hS, hS8, hd, hdN, hN, hTu0, hSt, hPi, hZ9, hHd⟩ := id hX.1
  have hI := hX.1
  have hTu : ∀ t, t < T → tunI ρ t := fun t ht => hTu0 t (by omega)
  have hwd : wdF ρ = nI (d % 7) := by unfold wdF; rw [hd, nI_clamp (by omega)]
  refine g_F0 (fa := fun _ => 0) (fz := fun _ _ => .inr (0, [])) (φ := z0) ?_
  refine g_aload_n X dL_law_470 1 rfl rfl ?_
  refine g_aload_n X dL_law_471 2 rfl rfl ?_
  refine g_iload X dL_law_472 4 rfl ?_
  refine g_bipush X (v := 11) dL_law_474 (by decide) ?_
  refine g_idiv X dL_law_476 (by decide) ?_
  refine g_act (F := 0) X hl0 hE hZ hX hLn (by omega) kl_L_101 ⟨Nat.le_of_ble_eq_true rfl, Nat.le_of_ble_eq_true rfl⟩ (Nat.le_of_ble_eq_true rfl) dL_law_477 ⟨by show _ ≤ 600172; omega, by show _ ≤ 7300668; omega⟩ (fun u hu0 hu48 hX9 hLn9 hAc9 => ?_)
  rw [← hu0, ← hu48]
  have hq9 : qv u.2.2.2.2 = c0 + f0 - p0 ∨ qv u.2.2.2.2 = c0 + f0 - p0 - 4 := by rw [← hq0]; exact hAc9.1
  have hd9 : u.2.2.2.2 0 7 = d0 := hAc9.2.1.trans hd0
  have hk9 : ¬ k0 < crc u.2.2.2.2 1 := by rw [← hk0]; exact act_crc hAc9 hPi
  clear hX hLn hT hT6 hS hS8 hd hdN hTu0 hSt hPi hZ9 hHd hI hTu hwd hq0 hd0 hk0 hAc9
  obtain ⟨ad, S, T, Ln, ρ⟩ := u
  have hXk := hX9
  have hLn : LnOK ρ T Ln := hLn9
  obtain ⟨N, eN⟩ : ∃ n, n = N + 5 := ⟨_, rfl⟩
  rw [← eN] at hX9
  have hX : Inx ρ N T S d := hX9
  have hq9 : qv ρ = c0 + f0 - p0 ∨ qv ρ = c0 + f0 - p0 - 4 := hq9
  have hd9 : ρ 0 7 = d0 := hd9
  have hk9 : ¬ k0 < crc ρ 1 := hk9
  obtain ⟨hT, hT6, hS, hS8, hd, hdN, hN, hTu0, hSt, hPi, hZ9, hHd⟩ := id hX.1
  have hI := hX.1
  have hTu : ∀ t, t < T → tunI ρ t := fun t ht => hTu0 t (by omega)
  have hwd : wdF ρ = nI (d % 7) := by unfold wdF; rw [hd, nI_clamp (by omega)]
  have hc9 := coin_ge hX
  have g5 := hX.2.2.2.2.1
  refine g_if_ne X 485 dL_law_480 (by decide) (fun c_1 => ?_) (fun c_1 => ?_)
  · skip
    refine g_iconst X (v := 0) dL_law_485 (by decide) ?_
    refine g_istore X [(17, .int _), (0, .ref _), (1, .ref _), (2, .ref _), (3, .int _), (4, .int _), (8, .int _), (9, .int _), (10, .int _), (11, .int _), (14, .int _)] dL_law_486 (by decide) rfl ?_
    refine g_iconst X (v := 0) dL_law_488 (by decide) ?_
    refine g_istore X [(18, .int _), (17, .int _), (0, .ref _), (1, .ref _), (2, .ref _), (3, .int _), (4, .int _), (8, .int _), (9, .int _), (10, .int _), (11, .int _), (14, .int _)] dL_law_489 (by decide) rfl ?_
    refine g_widen (k9 := (C1 + 20) + 6 * 0) (n9 := (S1 + 100) + 36 * 0) (by omega) (by omega) ?_
    refine g_ls (ls' := [(0, .ref _), (1, .ref _), (2, .ref _), (3, .int _), (4, .int _), (8, .int _), (9, .int _), (10, .int _), (11, .int _), (14, .int _), (17, .int _), (18, .int _)]) [2, 3, 4, 5, 6, 7, 8, 9, 10, 11, 1, 0] rfl ?_
    refine g_loop (fun _ => True) (fun _ => jF 0 z0 (wR S ρ ρ)) (fun z => [(0, .ref b), (1, .ref (ad 0)), (2, .ref (ad 48)), (3, .int (nI i)), (4, .int x), (8, .int c0), (9, .int f0), (10, .int d0), (11, .int k0), (14, .int p0), (17, .int (sumI (fun y => ρ (32 + 2 * y) 3) z)), (18, .int (nI z))]) (fun z => (C1 + 20) + 6 * z) (fun z => (S1 + 100) + 36 * z) S 0 trivial (by omega) rfl rfl rfl rfl (fun z h0z hz hIz ihz => ?_)
    refine g_iload X dL_law_491 11 rfl ?_
    refine g_aload_n X dL_law_493 1 rfl rfl ?_
    refine g_iconst X (v := 4) dL_law_494 (by decide) ?_
    refine g_yc (F := 0) X hE (gYI_1 (c_X3_count l hl0 D cy ad ρ N T S d hI (nI 4)) (cou_ok (w := 4) (by omega))) kl_L_118 ⟨rfl, rfl, Nat.le_of_ble_eq_true rfl, Nat.le_of_ble_eq_true rfl⟩ rfl rfl (Nat.le_of_ble_eq_true rfl) dL_law_495 ⟨by show _ ≤ 600172; omega, by show _ ≤ 7300668; omega⟩ ?_
    rw [show countF ρ 4 = nI S from hS]
    refine g_icmp_geN X z S 519 (by omega) (by omega) dL_law_498 (by decide) (fun c_2 => ?_) (fun c_2 => ?_)
    · skip
      have hzS : z = S := by omega
      obtain ⟨v9, ev⟩ : ∃ v : Int32, v = c0 + sumI (fun y => ρ (32 + 2 * y) 3) z - p0 - (ρ 0 9 - f0) - ρ 0 8 := ⟨_, rfl⟩
      have hv : v9 = 0 ∨ v9 = 4 := by
        rw [ev, hzS, paid_S hS8 g5]
        exact law_q hq9
      refine g_iload X dL_law_519 5 rfl ?_
      refine g_iload X dL_law_521 10 rfl ?_
      refine g_iadd X dL_law_523 ?_
      refine g_iload X dL_law_524 9 rfl ?_
      refine g_isub X dL_law_526 ?_
      refine g_aload_n X dL_law_527 1 rfl rfl ?_
      refine g_bipush X (v := 8) dL_law_528 (by decide) ?_
      refine g_yc (F := 0) X hE (gYI_1 (c_X3_count l hl0 D cy ad ρ N T S d hI (nI 8)) (cou_ok (w := 8) (by omega))) kl_L_118 ⟨rfl, rfl, Nat.le_of_ble_eq_true rfl, Nat.le_of_ble_eq_true rfl⟩ rfl rfl (Nat.le_of_ble_eq_true rfl) dL_law_530 ⟨by show _ ≤ 600172; omega, by show _ ≤ 7300668; omega⟩ ?_
      rw [show countF ρ 8 = ρ 0 9 from rfl]
      refine g_iload X dL_law_533 6 rfl ?_
      refine g_isub X dL_law_535 ?_
      refine g_isub X dL_law_536 ?_
      refine g_aload_n X dL_law_537 1 rfl rfl ?_
      refine g_iconst X (v := 2) dL_law_538 (by decide) ?_
      refine g_yc (F := 0) X hE (gYI_1 (c_X3_count l hl0 D cy ad ρ N T S d hI (nI 2)) (cou_ok (w := 2) (by omega))) kl_L_118 ⟨rfl, rfl, Nat.le_of_ble_eq_true rfl, Nat.le_of_ble_eq_true rfl⟩ rfl rfl (Nat.le_of_ble_eq_true rfl) dL_law_539 ⟨by show _ ≤ 600172; omega, by show _ ≤ 7300668; omega⟩ ?_
      rw [show countF ρ 2 = ρ 0 8 from rfl]
      refine g_isub X dL_law_542 ?_
      rw [← ev]
      refine g_istore X [(18, .int _), (0, .ref _), (1, .ref _), (2, .ref _), (3, .int _), (4, .int _), (8, .int _), (9, .int _), (10, .int _), (11, .int _), (14, .int _), (17, .int _)] dL_law_543 (by decide) rfl ?_
      refine g_iload X dL_law_545 0 rfl ?_
      refine g_if_eq X 556 dL_law_547 (by decide) (fun c_3 => ?_) (fun c_3 => ?_)
      · skip
        refine g_aload_n X dL_law_556 2 rfl rfl ?_
        refine g_iconst X (v := 0) dL_law_557 (by decide) ?_
        refine g_yc (F := 0) X hE (gYI_1 (c_X3_count l hl0 D cy ad ρ N T S d hI (nI 0)) (cou_ok (w := 0) (by omega))) kl_L_118 ⟨rfl, rfl, Nat.le_of_ble_eq_true rfl, Nat.le_of_ble_eq_true rfl⟩ rfl rfl (Nat.le_of_ble_eq_true rfl) dL_law_558 ⟨by show _ ≤ 600172; omega, by show _ ≤ 7300668; omega⟩ ?_
        rw [show countF ρ 0 = ρ 0 7 from rfl]
        refine g_iload X dL_law_561 8 rfl ?_
        refine g_icmp_ne X 584 dL_law_563 (by decide) (fun c_4 => ?_) (fun c_4 => ?_)
        · exfalso; exact c_4 hd9
        · skip
          refine g_aload_n X dL_law_566 2 rfl rfl ?_
          refine g_iconst X (v := 5) dL_law_567 (by decide) ?_
          refine g_yc (F := 0) X hE (gYI_1 (c_X3_count l hl0 D cy ad ρ N T S d hI (nI 5)) (cou_ok (w := 5) (by omega))) kl_L_118 ⟨rfl, rfl, Nat.le_of_ble_eq_true rfl, Nat.le_of_ble_eq_true rfl⟩ rfl rfl (Nat.le_of_ble_eq_true rfl) dL_law_568 ⟨by show _ ≤ 600172; omega, by show _ ≤ 7300668; omega⟩ ?_
          rw [show countF ρ 5 = crc ρ 1 from rfl]
          refine g_iload X dL_law_571 9 rfl ?_
          refine g_icmp_gt X 584 dL_law_573 (by decide) (fun c_5 => ?_) (fun c_5 => ?_)
          · exfalso; exact hk9 c_5
          · skip
            refine g_aload_n X dL_law_576 2 rfl rfl ?_
            refine g_iconst X (v := 2) dL_law_577 (by decide) ?_
            refine g_yc (F := 0) X hE (gYI_1 (c_X3_count l hl0 D cy ad ρ N T S d hI (nI 2)) (cou_ok (w := 2) (by omega))) kl_L_118 ⟨rfl, rfl, Nat.le_of_ble_eq_true rfl, Nat.le_of_ble_eq_true rfl⟩ rfl rfl (Nat.le_of_ble_eq_true rfl) dL_law_578 ⟨by show _ ≤ 600172; omega, by show _ ≤ 7300668; omega⟩ ?_
            rw [show countF ρ 2 = ρ 0 8 from rfl]
            refine g_if_ge X 586 dL_law_581 (by decide) (fun c_6 => ?_) (fun c_6 => ?_)
            · skip
              refine g_0F ?_
              refine g_ls (ls' := [(0, .ref _), (1, .ref _), (2, .ref _), (3, .int _), (4, .int _)]) [1, 2, 3, 4, 5] rfl ?_
              exact g_widen (by omega) (by omega) (kk (ad, S, T, Ln, ρ) d hu0 hu48 hXk hLn)
            · exfalso; exact c_6 hc9
      · skip
        have hz0 := c_3
        refine g_iload X dL_law_550 0 rfl ?_
        refine g_iconst X (v := 4) dL_law_552 (by decide) ?_
        refine g_icmp_ne X 584 dL_law_553 (by decide) (fun c_7 => ?_) (fun c_7 => ?_)
        · exfalso; exact hv.elim hz0 c_7
        · skip
          refine g_aload_n X dL_law_556 2 rfl rfl ?_
          refine g_iconst X (v := 0) dL_law_557 (by decide) ?_
          refine g_yc (F := 0) X hE (gYI_1 (c_X3_count l hl0 D cy ad ρ N T S d hI (nI 0)) (cou_ok (w := 0) (by omega))) kl_L_118 ⟨rfl, rfl, Nat.le_of_ble_eq_true rfl, Nat.le_of_ble_eq_true rfl⟩ rfl rfl (Nat.le_of_ble_eq_true rfl) dL_law_558 ⟨by show _ ≤ 600172; omega, by show _ ≤ 7300668; omega⟩ ?_
          rw [show countF ρ 0 = ρ 0 7 from rfl]
          refine g_iload X dL_law_561 8 rfl ?_
          refine g_icmp_ne X 584 dL_law_563 (by decide) (fun c_8 => ?_) (fun c_8 => ?_)
          · exfalso; exact c_8 hd9
          · skip
            refine g_aload_n X dL_law_566 2 rfl rfl ?_
            refine g_iconst X (v := 5) dL_law_567 (by decide) ?_
            refine g_yc (F := 0) X hE (gYI_1 (c_X3_count l hl0 D cy ad ρ N T S d hI (nI 5)) (cou_ok (w := 5) (by omega))) kl_L_118 ⟨rfl, rfl, Nat.le_of_ble_eq_true rfl, Nat.le_of_ble_eq_true rfl⟩ rfl rfl (Nat.le_of_ble_eq_true rfl) dL_law_568 ⟨by show _ ≤ 600172; omega, by show _ ≤ 7300668; omega⟩ ?_
            rw [show countF ρ 5 = crc ρ 1 from rfl]
            refine g_iload X dL_law_571 9 rfl ?_
            refine g_icmp_gt X 584 dL_law_573 (by decide) (fun c_9 => ?_) (fun c_9 => ?_)
            · exfalso; exact hk9 c_9
            · skip
              refine g_aload_n X dL_law_576 2 rfl rfl ?_
              refine g_iconst X (v := 2) dL_law_577 (by decide) ?_
              refine g_yc (F := 0) X hE (gYI_1 (c_X3_count l hl0 D cy ad ρ N T S d hI (nI 2)) (cou_ok (w := 2) (by omega))) kl_L_118 ⟨rfl, rfl, Nat.le_of_ble_eq_true rfl, Nat.le_of_ble_eq_true rfl⟩ rfl rfl (Nat.le_of_ble_eq_true rfl) dL_law_578 ⟨by show _ ≤ 600172; omega, by show _ ≤ 7300668; omega⟩ ?_
              rw [show countF ρ 2 = ρ 0 8 from rfl]
              refine g_if_ge X 586 dL_law_581 (by decide) (fun c_10 => ?_) (fun c_10 => ?_)
              · skip
                refine g_0F ?_
                refine g_ls (ls' := [(0, .ref _), (1, .ref _), (2, .ref _), (3, .int _), (4, .int _)]) [1, 2, 3, 4, 5] rfl ?_
                exact g_widen (by omega) (by omega) (kk (ad, S, T, Ln, ρ) d hu0 hu48 hXk hLn)
              · exfalso; exact c_10 hc9
    · skip
      refine g_iload X dL_law_501 10 rfl ?_
      refine g_aload_n X dL_law_503 1 rfl rfl ?_
      refine g_iload X dL_law_504 11 rfl ?_
      refine g_iconst X (v := 3) dL_law_506 (by decide) ?_
      refine g_yc (F := 0) X hE (gYI_1 (c_X3_told l hl0 D cy ad ρ N T S d hI (nI z) (nI 3)) (tol_ok (z := z) (w := 3) hS hS8 (by omega) (by omega))) kl_L_121 ⟨rfl, rfl, Nat.le_of_ble_eq_true rfl, Nat.le_of_ble_eq_true rfl⟩ rfl rfl (Nat.le_of_ble_eq_true rfl) dL_law_507 ⟨by show _ ≤ 600172; omega, by show _ ≤ 7300668; omega⟩ ?_
      refine g_iadd X dL_law_510 ?_
      refine g_istore X [(17, .int _), (0, .ref _), (1, .ref _), (2, .ref _), (3, .int _), (4, .int _), (8, .int _), (9, .int _), (10, .int _), (11, .int _), (14, .int _), (18, .int _)] dL_law_511 (by decide) rfl ?_
      refine g_iincN X z 18 [(18, .int _), (17, .int _), (0, .ref _), (1, .ref _), (2, .ref _), (3, .int _), (4, .int _), (8, .int _), (9, .int _), (10, .int _), (11, .int _), (14, .int _)] 11 dL_law_513 rfl (by decide) rfl ?_
      refine g_goto X 491 dL_law_516 (by decide) ?_
      refine g_ls (ls' := [(0, .ref _), (1, .ref _), (2, .ref _), (3, .int _), (4, .int _), (8, .int _), (9, .int _), (10, .int _), (11, .int _), (14, .int _), (17, .int _), (18, .int _)]) [2, 3, 4, 5, 6, 7, 8, 9, 10, 11, 1, 0] rfl ?_
      refine g_widen (k9 := ((C1 + 20) + 6 * (z + 1))) (n9 := ((S1 + 100) + 36 * (z + 1))) (by omega) (by omega) ?_
      exact g_eqv (ihz (by omega) trivial) ((by rw [sumI_s]; rfl)) (rfl) rfl rfl
  · exfalso; exact absurd c_1 (by decide)

end LGC
