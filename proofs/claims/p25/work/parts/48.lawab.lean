/-! The law: a round -/
section LGA
variable {p : Program} {l : Launch} {e : Env} {s : State} {m : MethodId} {args : Array Value} {below : List Frame} {meth : Method} {c : Code} {Q : State → Prop}
variable {Ts : List Cond} {D : va_G} {cy : Nat → ClassId} {A : Nat → Prop}
variable {ad : Nat → Nat} {ρ : gSt} {C1 S1 : Nat} {S T N d i b : Nat} {Ln : Nat → Nat} {x : Int32}
set_option maxHeartbeats 4000000 in
set_option maxRecDepth 100000 in
theorem law_AB (X : gX p m c cL_law 23 s args Ts RL D cy A) (hl0 : l.stackTraces = false) (hE : gEnv s A) (hZ : zAO s) (hX : Inx ρ N T S d) (hLn : LnOK ρ T Ln) (hc1 : C1 + 1500 ≤ 600172) (hs1 : S1 + 9000 ≤ 7300668) (hN9 : N + 5 ≤ 600) (kk : ∀ (u : gU) (d : Nat), u.1 0 = ad 0 → u.1 48 = ad 48 → Inx u.2.2.2.2 (N + 5) u.2.2.1 u.2.1 d → LnOK u.2.2.2.2 u.2.2.1 u.2.2.2.1 → GW p l e { frames := 12, cells := 600172, slots := 7300668, locals := 442 } s m args below meth c Q 23 D A (48 + (8 + u.2.1 + u.2.2.1)) u.1 (cW u.1 cy u.2.1 u.2.2.1 u.2.2.2.1) (wR u.2.1 u.2.2.2.2 u.2.2.2.2) (C1 + 1500) (S1 + 9000) 586 [(0, .ref b), (1, .ref (u.1 0)), (2, .ref (u.1 48)), (3, .int (nI i)), (4, .int x)] []) : GW p l e { frames := 12, cells := 600172, slots := 7300668, locals := 442 } s m args below meth c Q 23 D A (48 + (8 + S + T)) ad (cW ad cy S T Ln) (wR S ρ ρ) C1 S1 50 [(0, .ref b), (1, .ref (ad 0)), (2, .ref (ad 48)), (3, .int (nI i)), (4, .int x)] [] := by
  obtain ⟨hT, hT6, hS, hS8, hd, hdN, hN, hTu0, hSt, hPi, hZ9, hHd⟩ := id hX.1
  have hI := hX.1
  have hTu : ∀ t, t < T → tunI ρ t := fun t ht => hTu0 t (by omega)
  have hwd : wdF ρ = nI (d % 7) := by unfold wdF; rw [hd, nI_clamp (by omega)]
  have g5 := hX.2.2.2.2.1
  refine g_F0 (fa := fun _ => 0) (fz := fun _ _ => .inr (0, [])) (φ := z0) ?_
  refine g_bipush X (v := 12) dL_law_50 (by decide) ?_
  refine g_pushi X 1 rfl 12 (by decide) kac_int ⟨by show _ ≤ 600172; omega, by show _ ≤ 7300668; omega⟩ dL_law_52 (fun q_1 => ?_)
  obtain ⟨φ_2, sφ_2⟩ : ∃ φz, φz = xRo z0 0 := ⟨_, rfl⟩
  rw [← sφ_2]
  refine g_astore X [(5, .ref _), (0, .ref _), (1, .ref _), (2, .ref _), (3, .int _), (4, .int _)] dL_law_54 (by decide) rfl ?_
  refine g_bipush X (v := 12) dL_law_56 (by decide) ?_
  refine g_pushi X 2 rfl 12 (by decide) kac_int ⟨by show _ ≤ 600172; omega, by show _ ≤ 7300668; omega⟩ dL_law_58 (fun q_3 => ?_)
  obtain ⟨φ_4, sφ_4⟩ : ∃ φz, φz = xRo φ_2 1 := ⟨_, rfl⟩
  rw [← sφ_4]
  refine g_astore X [(6, .ref _), (5, .ref _), (0, .ref _), (1, .ref _), (2, .ref _), (3, .int _), (4, .int _)] dL_law_60 (by decide) rfl ?_
  refine g_bipush X (v := 12) dL_law_62 (by decide) ?_
  refine g_pushz X 3 rfl 12 (by decide) kac_bool ⟨by show _ ≤ 600172; omega, by show _ ≤ 7300668; omega⟩ dL_law_64 (fun q_5 => ?_)
  obtain ⟨φ_6, sφ_6⟩ : ∃ φz, φz = xRo φ_4 2 := ⟨_, rfl⟩
  rw [← sφ_6]
  refine g_astore X [(7, .ref _), (6, .ref _), (5, .ref _), (0, .ref _), (1, .ref _), (2, .ref _), (3, .int _), (4, .int _)] dL_law_66 (by decide) rfl ?_
  refine g_iconst X (v := 0) dL_law_68 (by decide) ?_
  refine g_istore X [(8, .int _), (7, .ref _), (6, .ref _), (5, .ref _), (0, .ref _), (1, .ref _), (2, .ref _), (3, .int _), (4, .int _)] dL_law_69 (by decide) rfl ?_
  refine g_widen (k9 := (((C1 + 1) + 1) + 1) + 9 * 0) (n9 := (((S1 + 12) + 12) + 12) + 54 * 0) (by omega) (by omega) ?_
  refine g_ls (ls' := [(0, .ref _), (1, .ref _), (2, .ref _), (3, .int _), (4, .int _), (5, .ref _), (6, .ref _), (7, .ref _), (8, .int _)]) [4, 5, 6, 7, 8, 3, 2, 1, 0] rfl ?_
  refine g_loop (fun _ => True) (fun w => jF 3 (frA ρ w) (wR S ρ ρ)) (fun w => [(0, .ref b), (1, .ref (ad 0)), (2, .ref (ad 48)), (3, .int (nI i)), (4, .int x), (5, .ref q_1), (6, .ref q_3), (7, .ref q_5), (8, .int (nI w))]) (fun w => (((C1 + 1) + 1) + 1) + 9 * w) (fun w => (((S1 + 12) + 12) + 12) + 54 * w) 12 0 trivial (by omega) rfl (by rw [show φ_6 = frA ρ 0 by subst_vars; exact frA_0]) rfl rfl (fun w h0w hw hIw ihw => ?_)
  obtain ⟨φ9, eφ9⟩ : ∃ φz, φz = frA ρ w := ⟨_, rfl⟩
  rw [← eφ9]
  refine g_iload X dL_law_71 8 rfl ?_
  refine g_bipush X (v := 12) dL_law_73 (by decide) ?_
  refine g_icmp_geN X w 12 128 (by omega) (by omega) dL_law_75 (by decide) (fun c_7 => ?_) (fun c_7 => ?_)
  · skip
    refine g_widen (k9 := (C1 + 120)) (n9 := (S1 + 800)) (by omega) (by omega) ?_
    have hf0 : ∀ y, y < 12 → φ9 0 y = tellF ρ 1 y 0 := fun y hy => by rw [eφ9]; unfold frA; rw [if_pos (by omega)]; rfl
    have hf1 : ∀ y, y < 12 → φ9 1 y = tellF ρ 1 y 1 := fun y hy => by rw [eφ9]; unfold frA; rw [if_pos (by omega)]; rfl
    have hf2 : ∀ y, y < 12 → φ9 2 y = silF ρ y := fun y hy => by rw [eφ9]; unfold frA; rw [if_pos (by omega)]; rfl
    refine g_aload_n X dL_law_128 1 rfl rfl ?_
    refine g_iconst X (v := 2) dL_law_129 (by decide) ?_
    refine g_yc (F := 3) X hE (gYI_1 (c_X3_count l hl0 D cy ad ρ N T S d hI (nI 2)) (cou_ok (w := 2) (by omega))) kl_L_118 ⟨rfl, rfl, Nat.le_of_ble_eq_true rfl, Nat.le_of_ble_eq_true rfl⟩ rfl rfl (Nat.le_of_ble_eq_true rfl) dL_law_130 ⟨by show _ ≤ 600172; omega, by show _ ≤ 7300668; omega⟩ ?_
    rw [show countF ρ 2 = ρ 0 8 from rfl]
    refine g_istore X [(8, .int _), (0, .ref _), (1, .ref _), (2, .ref _), (3, .int _), (4, .int _), (5, .ref _), (6, .ref _), (7, .ref _)] dL_law_133 (by decide) rfl ?_
    refine g_aload_n X dL_law_135 2 rfl rfl ?_
    refine g_bipush X (v := 8) dL_law_136 (by decide) ?_
    refine g_yc (F := 3) X hE (gYI_1 (c_X3_count l hl0 D cy ad ρ N T S d hI (nI 8)) (cou_ok (w := 8) (by omega))) kl_L_118 ⟨rfl, rfl, Nat.le_of_ble_eq_true rfl, Nat.le_of_ble_eq_true rfl⟩ rfl rfl (Nat.le_of_ble_eq_true rfl) dL_law_138 ⟨by show _ ≤ 600172; omega, by show _ ≤ 7300668; omega⟩ ?_
    rw [show countF ρ 8 = ρ 0 9 from rfl]
    refine g_istore X [(9, .int _), (8, .int _), (0, .ref _), (1, .ref _), (2, .ref _), (3, .int _), (4, .int _), (5, .ref _), (6, .ref _), (7, .ref _)] dL_law_141 (by decide) rfl ?_
    refine g_aload_n X dL_law_143 3 rfl rfl ?_
    refine g_iconst X (v := 0) dL_law_144 (by decide) ?_
    refine g_yc (F := 3) X hE (gYI_1 (c_X3_count l hl0 D cy ad ρ N T S d hI (nI 0)) (cou_ok (w := 0) (by omega))) kl_L_118 ⟨rfl, rfl, Nat.le_of_ble_eq_true rfl, Nat.le_of_ble_eq_true rfl⟩ rfl rfl (Nat.le_of_ble_eq_true rfl) dL_law_145 ⟨by show _ ≤ 600172; omega, by show _ ≤ 7300668; omega⟩ ?_
    rw [show countF ρ 0 = nI d from hd]
    refine g_istore X [(10, .int _), (9, .int _), (8, .int _), (0, .ref _), (1, .ref _), (2, .ref _), (3, .int _), (4, .int _), (5, .ref _), (6, .ref _), (7, .ref _)] dL_law_148 (by decide) rfl ?_
    refine g_aload_n X dL_law_150 4 rfl rfl ?_
    refine g_iconst X (v := 5) dL_law_151 (by decide) ?_
    refine g_yc (F := 3) X hE (gYI_1 (c_X3_count l hl0 D cy ad ρ N T S d hI (nI 5)) (cou_ok (w := 5) (by omega))) kl_L_118 ⟨rfl, rfl, Nat.le_of_ble_eq_true rfl, Nat.le_of_ble_eq_true rfl⟩ rfl rfl (Nat.le_of_ble_eq_true rfl) dL_law_152 ⟨by show _ ≤ 600172; omega, by show _ ≤ 7300668; omega⟩ ?_
    rw [show countF ρ 5 = crc ρ 1 from rfl]
    refine g_istore X [(11, .int _), (10, .int _), (9, .int _), (8, .int _), (0, .ref _), (1, .ref _), (2, .ref _), (3, .int _), (4, .int _), (5, .ref _), (6, .ref _), (7, .ref _)] dL_law_155 (by decide) rfl ?_
    refine g_aload_n X dL_law_157 5 rfl rfl ?_
    refine g_iconst X (v := 3) dL_law_158 (by decide) ?_
    refine g_yc (F := 3) X hE (gYI_1 (c_X3_count l hl0 D cy ad ρ N T S d hI (nI 3)) (cou_ok (w := 3) (by omega))) kl_L_118 ⟨rfl, rfl, Nat.le_of_ble_eq_true rfl, Nat.le_of_ble_eq_true rfl⟩ rfl rfl (Nat.le_of_ble_eq_true rfl) dL_law_159 ⟨by show _ ≤ 600172; omega, by show _ ≤ 7300668; omega⟩ ?_
    rw [show countF ρ 3 = nI T from hT]
    refine g_istore X [(12, .int _), (11, .int _), (10, .int _), (9, .int _), (8, .int _), (0, .ref _), (1, .ref _), (2, .ref _), (3, .int _), (4, .int _), (5, .ref _), (6, .ref _), (7, .ref _)] dL_law_162 (by decide) rfl ?_
    refine g_aload_n X dL_law_164 6 rfl rfl ?_
    refine g_iconst X (v := 4) dL_law_165 (by decide) ?_
    refine g_yc (F := 3) X hE (gYI_1 (c_X3_count l hl0 D cy ad ρ N T S d hI (nI 4)) (cou_ok (w := 4) (by omega))) kl_L_118 ⟨rfl, rfl, Nat.le_of_ble_eq_true rfl, Nat.le_of_ble_eq_true rfl⟩ rfl rfl (Nat.le_of_ble_eq_true rfl) dL_law_166 ⟨by show _ ≤ 600172; omega, by show _ ≤ 7300668; omega⟩ ?_
    rw [show countF ρ 4 = nI S from hS]
    refine g_istore X [(13, .int _), (12, .int _), (11, .int _), (10, .int _), (9, .int _), (8, .int _), (0, .ref _), (1, .ref _), (2, .ref _), (3, .int _), (4, .int _), (5, .ref _), (6, .ref _), (7, .ref _)] dL_law_169 (by decide) rfl ?_
    refine g_iconst X (v := 0) dL_law_171 (by decide) ?_
    refine g_istore X [(14, .int _), (13, .int _), (12, .int _), (11, .int _), (10, .int _), (9, .int _), (8, .int _), (0, .ref _), (1, .ref _), (2, .ref _), (3, .int _), (4, .int _), (5, .ref _), (6, .ref _), (7, .ref _)] dL_law_172 (by decide) rfl ?_
    refine g_iconst X (v := 0) dL_law_174 (by decide) ?_
    refine g_istore X [(15, .int _), (14, .int _), (13, .int _), (12, .int _), (11, .int _), (10, .int _), (9, .int _), (8, .int _), (0, .ref _), (1, .ref _), (2, .ref _), (3, .int _), (4, .int _), (5, .ref _), (6, .ref _), (7, .ref _)] dL_law_175 (by decide) rfl ?_
    refine g_widen (k9 := (((((((C1 + 120) + 3) + 3) + 3) + 3) + 3) + 3) + 3 * 0) (n9 := (((((((S1 + 800) + 18) + 18) + 18) + 18) + 18) + 18) + 18 * 0) (by omega) (by omega) ?_
    refine g_ls (ls' := [(0, .ref _), (1, .ref _), (2, .ref _), (3, .int _), (4, .int _), (5, .ref _), (6, .ref _), (7, .ref _), (8, .int _), (9, .int _), (10, .int _), (11, .int _), (12, .int _), (13, .int _), (14, .int _), (15, .int _)]) [8, 9, 10, 11, 12, 13, 14, 15, 7, 6, 5, 4, 3, 2, 1, 0] rfl ?_
    refine g_loop (fun _ => True) (fun _ => jF 3 φ9 (wR S ρ ρ)) (fun z => [(0, .ref b), (1, .ref (ad 0)), (2, .ref (ad 48)), (3, .int (nI i)), (4, .int x), (5, .ref q_1), (6, .ref q_3), (7, .ref q_5), (8, .int (ρ 0 8)), (9, .int (ρ 0 9)), (10, .int (nI d)), (11, .int (crc ρ 1)), (12, .int (nI T)), (13, .int (nI S)), (14, .int (sumI (fun y => ρ (32 + 2 * y) 3) z)), (15, .int (nI z))]) (fun z => (((((((C1 + 120) + 3) + 3) + 3) + 3) + 3) + 3) + 3 * z) (fun z => (((((((S1 + 800) + 18) + 18) + 18) + 18) + 18) + 18) + 18 * z) S 0 trivial (by omega) rfl rfl rfl rfl (fun z h0z hz hIz ihz => ?_)
    refine g_iload X dL_law_177 15 rfl ?_
    refine g_iload X dL_law_179 13 rfl ?_
    refine g_icmp_geN X z S 202 (by omega) (by omega) dL_law_181 (by decide) (fun c_8 => ?_) (fun c_8 => ?_)
    · skip
      have hzS : z = S := by omega
      refine g_widen (k9 := (C1 + 200)) (n9 := (S1 + 1300)) (by omega) (by omega) ?_
      refine g_aload_n X dL_law_202 1 rfl rfl ?_
      refine g_lc (F := 3) X (c_X3_digest l D cy ad ρ N T S d hI) kl_L_124 ⟨rfl, rfl, Nat.le_of_ble_eq_true rfl, Nat.le_of_ble_eq_true rfl⟩ rfl rfl (Nat.le_of_ble_eq_true rfl) dL_law_203 ⟨by show _ ≤ 600172; omega, by show _ ≤ 7300668; omega⟩ ?_
      refine g_lstore X [(15, .long _), (0, .ref _), (1, .ref _), (2, .ref _), (3, .int _), (4, .int _), (5, .ref _), (6, .ref _), (7, .ref _), (8, .int _), (9, .int _), (10, .int _), (11, .int _), (12, .int _), (13, .int _), (14, .int _)] dL_law_206 (by decide) rfl ?_
      refine g_iload X dL_law_208 5 rfl ?_
      refine g_iconst X (v := 4) dL_law_210 (by decide) ?_
      refine g_below X 4 (by omega) (by omega) kl_L_15 ⟨Nat.le_of_ble_eq_true rfl, Nat.le_of_ble_eq_true rfl⟩ (Nat.le_of_ble_eq_true rfl) dL_law_211 ⟨by show _ ≤ 600172; omega, by show _ ≤ 7300668; omega⟩ (fun k_9 hk_9 => ?_)
      refine g_if_ne X 470 dL_law_214 (by decide) (fun c_10 => ?_) (fun c_10 => ?_)
      · skip
        refine g_popF ?_
        refine g_0F ?_
        refine g_ls (ls' := [(0, .ref _), (1, .ref _), (2, .ref _), (3, .int _), (4, .int _), (8, .int _), (9, .int _), (10, .int _), (11, .int _), (14, .int _)]) [1, 2, 3, 4, 5, 9, 10, 11, 12, 15] rfl ?_
        exact law_C (C1 := ((C1 + 200) + 0)) (S1 := ((S1 + 1300) + 0)) (c0 := ρ 0 8) (f0 := ρ 0 9) (d0 := nI d) (k0 := crc ρ 1) X hl0 hE hZ hX hLn (by omega) (by omega) hN9 (by rw [hzS, paid_S hS8 g5]; rfl) hd rfl (fun u d9 q1 q2 q3 q4 => g_widen (by omega) (by omega) (kk u d9 q1 q2 q3 q4))
      · skip
        refine g_aload_n X dL_law_217 2 rfl rfl ?_
        refine g_iload X dL_law_218 11 rfl ?_
        refine g_bipush X (v := 7) dL_law_220 (by decide) ?_
        refine g_irem X dL_law_222 (by decide) ?_
        rw [show nI d - nI d / 7 * 7 = nI (d % 7) from pk_rem (d := 7) (by omega) (by omega) (by omega)]
        refine g_iconst X (v := 0) dL_law_223 (by decide) ?_
        refine g_yc (F := 3) X hE (gYI_2 (c_X3_setDamp l hl0 D cy ad ρ N T S d hI (nI (d % 7)) (nI 0)) (dam_ok (k := d % 7) (w := 0) (by omega) (by omega))) kl_L_53 ⟨rfl, rfl, Nat.le_of_ble_eq_true rfl, Nat.le_of_ble_eq_true rfl⟩ rfl rfl (Nat.le_of_ble_eq_true rfl) dL_law_224 ⟨by show _ ≤ 600172; omega, by show _ ≤ 7300668; omega⟩ ?_
        obtain ⟨u5, hu5, eu5⟩ := hX.2.2.1 (d % 7) (by omega)
        rw [eu5]
        have hIa := (ax_dam hX (by omega) (k := d % 7) (w := 0) (by omega) (by omega)).1.1
        obtain ⟨ρa, ea⟩ : ∃ r, r = up2 ρ 13 (d % 7) (nI 0) := ⟨_, rfl⟩
        rw [← ea]
        rw [← ea] at hIa
        refine g_istore X [(17, .int _), (15, .long _), (0, .ref _), (1, .ref _), (2, .ref _), (3, .int _), (4, .int _), (5, .ref _), (6, .ref _), (7, .ref _), (8, .int _), (9, .int _), (10, .int _), (11, .int _), (12, .int _), (13, .int _), (14, .int _)] dL_law_227 (by decide) rfl ?_
        refine g_aload_n X dL_law_229 3 rfl rfl ?_
        refine g_iload X dL_law_230 12 rfl ?_
        refine g_bipush X (v := 7) dL_law_232 (by decide) ?_
        refine g_irem X dL_law_234 (by decide) ?_
        rw [show nI d - nI d / 7 * 7 = nI (d % 7) from pk_rem (d := 7) (by omega) (by omega) (by omega)]
        refine g_iload X dL_law_235 0 rfl ?_
        refine g_yc (F := 3) X hE (gYI_2 (c_X3_setDamp l hl0 D cy ad ρa (N + 1) T S d hIa (nI (d % 7)) (nI u5)) (dam_ok (k := d % 7) (w := u5) (by omega) hu5)) kl_L_53 ⟨rfl, rfl, Nat.le_of_ble_eq_true rfl, Nat.le_of_ble_eq_true rfl⟩ rfl rfl (Nat.le_of_ble_eq_true rfl) dL_law_237 ⟨by show _ ≤ 600172; omega, by show _ ≤ 7300668; omega⟩ ?_
        rw [show up2 ρa 13 (d % 7) (nI u5) = ρ by rw [ea]; exact up2_bk eu5]
        refine g_pop X dL_law_240 rfl ?_
        refine g_aload_n X dL_law_241 3 rfl rfl ?_
        refine g_iconst X (v := 1) dL_law_242 (by decide) ?_
        refine g_iconst X (v := 5) dL_law_243 (by decide) ?_
        refine g_yc (F := 3) X hE (gYI_2 (c_X3_foresee l hl0 D cy ad ρ N T S d hI 1 5) for_ok) kl_L_128 ⟨rfl, rfl, Nat.le_of_ble_eq_true rfl, Nat.le_of_ble_eq_true rfl⟩ rfl rfl (Nat.le_of_ble_eq_true rfl) dL_law_244 ⟨by show _ ≤ 600172; omega, by show _ ≤ 7300668; omega⟩ ?_
        have hK0 := for_crc (ρ := ρ) (σ := forR ρ 1) (d := d) apart_for ((apart_for 0 (by omega) ▸ hd : forR ρ 1 0 7 = nI d)) (by omega)
        obtain ⟨f8, ef8⟩ : ∃ v, v = sumUpF (forR ρ 1) 6 5 := ⟨_, rfl⟩
        rw [← ef8]
        rw [← ef8] at hK0
        obtain ⟨ρ1, e1⟩ : ∃ r, r = forR ρ 1 := ⟨_, rfl⟩
        rw [← e1]
        rw [← e1] at hK0
        have hA1 : Apart ρ ρ1 := by rw [e1]; exact apart_for
        rw [show wR S ρ1 ρ = wR S ρ1 ρ1 by unfold wR; rw [hA1.sim]]
        have hdg := hA1.dig
        have hX1 := hA1.inx hX
        have h71 := hX1.1.2.2.2.2.1
        have hK1 : crc (resR ρ1 1) 1 = crc ρ 1 + csF ρ1 1 d 1 := by rw [crc_res h71 (by omega), hA1.crce]
        refine g_istore X [(18, .int _), (17, .int _), (15, .long _), (0, .ref _), (1, .ref _), (2, .ref _), (3, .int _), (4, .int _), (5, .ref _), (6, .ref _), (7, .ref _), (8, .int _), (9, .int _), (10, .int _), (11, .int _), (12, .int _), (13, .int _), (14, .int _)] dL_law_247 (by decide) rfl ?_
        refine g_aload_n X dL_law_249 4 rfl rfl ?_
        refine g_lc (F := 3) X (c_X3_digest l D cy ad ρ1 N T S d hX1.1) kl_L_124 ⟨rfl, rfl, Nat.le_of_ble_eq_true rfl, Nat.le_of_ble_eq_true rfl⟩ rfl rfl (Nat.le_of_ble_eq_true rfl) dL_law_250 ⟨by show _ ≤ 600172; omega, by show _ ≤ 7300668; omega⟩ ?_
        rw [hdg]
        refine g_lload X dL_law_253 2 rfl ?_
        refine g_lcmp X dL_law_255 ?_
        refine g_if_eq X 261 dL_law_256 (by decide) (fun c_11 => ?_) (fun c_11 => ?_)
        · skip
          refine g_aload_n X dL_law_261 4 rfl rfl ?_
          refine g_iconst X (v := 1) dL_law_262 (by decide) ?_
          refine g_yc (F := 3) X hE (gYI_1 (c_X3_rest l hl0 D cy ad ρ1 N T S d hX1.1 1) (res_ok h71 (by omega))) kl_L_105 ⟨rfl, rfl, Nat.le_of_ble_eq_true rfl, Nat.le_of_ble_eq_true rfl⟩ rfl rfl (Nat.le_of_ble_eq_true rfl) dL_law_263 ⟨by show _ ≤ 600172; omega, by show _ ≤ 7300668; omega⟩ ?_
          refine g_istore X [(19, .int _), (18, .int _), (17, .int _), (15, .long _), (0, .ref _), (1, .ref _), (2, .ref _), (3, .int _), (4, .int _), (5, .ref _), (6, .ref _), (7, .ref _), (8, .int _), (9, .int _), (10, .int _), (11, .int _), (12, .int _), (13, .int _), (14, .int _)] dL_law_266 (by decide) rfl ?_
          refine g_aload_n X dL_law_268 6 rfl rfl ?_
          refine g_sc (F := 3) X (c_X4_rest l D cy (aS ad) ρ1 S T Ln d h71 (by omega) hS8 hX1.1.2.2.1 hX1.1.2.2.2.2.2.2.2.2.2.1) kl_L_108 ⟨rfl, rfl, Nat.le_of_ble_eq_true rfl, Nat.le_of_ble_eq_true rfl⟩ rfl rfl (Nat.le_of_ble_eq_true rfl) dL_law_269 ⟨by show _ ≤ 600172; omega, by show _ ≤ 7300668; omega⟩ ?_
          obtain ⟨ρ2, e2⟩ : ∃ r, r = resR ρ1 1 := ⟨_, rfl⟩
          rw [← e2]
          rw [← e2] at hK0 hK1
          have hX2 : Inx ρ2 (N + 1) T S (d + 1) := by rw [e2]; exact ax_res hX1 (by omega)
          have hC2 : ρ2 0 8 = ρ 0 8 := by rw [e2, resR_0 (by omega), hA1 0 (by omega)]
          have hC0 : ρ2 0 7 = nI d + 1 := by rw [e2, resR_7 h71 (by omega), nI_1]
          have hLn2 : LnOK ρ2 T Ln := Ln_cg (hA1.ln hLn) (fun t ht => by rw [e2]; exact resR_o hS8 hX1.1.2.2.1 (by omega) (by omega) (by omega))
          refine g_iload X dL_law_272 0 rfl ?_
          refine g_icmp_ne X 322 dL_law_274 (by decide) (fun c_12 => ?_) (fun c_12 => ?_)
          · exfalso; exact c_12 rfl
          · skip
            refine g_aload_n X dL_law_277 5 rfl rfl ?_
            refine g_iconst X (v := 5) dL_law_278 (by decide) ?_
            refine g_yc (F := 3) X hE (gYI_1 (c_X3_count l hl0 D cy ad ρ2 (N + 1) T S (d + 1) hX2.1 (nI 5)) (cou_ok (w := 5) (by omega))) kl_L_118 ⟨rfl, rfl, Nat.le_of_ble_eq_true rfl, Nat.le_of_ble_eq_true rfl⟩ rfl rfl (Nat.le_of_ble_eq_true rfl) dL_law_279 ⟨by show _ ≤ 600172; omega, by show _ ≤ 7300668; omega⟩ ?_
            refine g_iload X dL_law_282 15 rfl ?_
            refine g_iload X dL_law_284 0 rfl ?_
            refine g_iadd X dL_law_286 ?_
            refine g_icmp_ne X 322 dL_law_287 (by decide) (fun c_13 => ?_) (fun c_13 => ?_)
            · exfalso; exact c_13 hK1
            · skip
              refine g_aload_n X dL_law_290 5 rfl rfl ?_
              refine g_iconst X (v := 5) dL_law_291 (by decide) ?_
              refine g_yc (F := 3) X hE (gYI_1 (c_X3_count l hl0 D cy ad ρ2 (N + 1) T S (d + 1) hX2.1 (nI 5)) (cou_ok (w := 5) (by omega))) kl_L_118 ⟨rfl, rfl, Nat.le_of_ble_eq_true rfl, Nat.le_of_ble_eq_true rfl⟩ rfl rfl (Nat.le_of_ble_eq_true rfl) dL_law_292 ⟨by show _ ≤ 600172; omega, by show _ ≤ 7300668; omega⟩ ?_
              refine g_iload X dL_law_295 1 rfl ?_
              refine g_icmp_ne X 322 dL_law_297 (by decide) (fun c_14 => ?_) (fun c_14 => ?_)
              · exfalso; exact c_14 hK0.symm
              · skip
                refine g_aload_n X dL_law_300 5 rfl rfl ?_
                refine g_iconst X (v := 2) dL_law_301 (by decide) ?_
                refine g_yc (F := 3) X hE (gYI_1 (c_X3_count l hl0 D cy ad ρ2 (N + 1) T S (d + 1) hX2.1 (nI 2)) (cou_ok (w := 2) (by omega))) kl_L_118 ⟨rfl, rfl, Nat.le_of_ble_eq_true rfl, Nat.le_of_ble_eq_true rfl⟩ rfl rfl (Nat.le_of_ble_eq_true rfl) dL_law_302 ⟨by show _ ≤ 600172; omega, by show _ ≤ 7300668; omega⟩ ?_
                refine g_iload X dL_law_305 12 rfl ?_
                refine g_icmp_ne X 322 dL_law_307 (by decide) (fun c_15 => ?_) (fun c_15 => ?_)
                · exfalso; exact c_15 hC2
                · skip
                  refine g_aload_n X dL_law_310 5 rfl rfl ?_
                  refine g_iconst X (v := 0) dL_law_311 (by decide) ?_
                  refine g_yc (F := 3) X hE (gYI_1 (c_X3_count l hl0 D cy ad ρ2 (N + 1) T S (d + 1) hX2.1 (nI 0)) (cou_ok (w := 0) (by omega))) kl_L_118 ⟨rfl, rfl, Nat.le_of_ble_eq_true rfl, Nat.le_of_ble_eq_true rfl⟩ rfl rfl (Nat.le_of_ble_eq_true rfl) dL_law_312 ⟨by show _ ≤ 600172; omega, by show _ ≤ 7300668; omega⟩ ?_
                  refine g_iload X dL_law_315 14 rfl ?_
                  refine g_iconst X (v := 1) dL_law_317 (by decide) ?_
                  refine g_iadd X dL_law_318 ?_
                  refine g_icmp_eq X 324 dL_law_319 (by decide) (fun c_16 => ?_) (fun c_16 => ?_)
                  · skip
                    have h7a : ρ 0 7 = nI d := hd
                    have hn0 : ∀ y, y < 12 → tellF ρ2 1 y 0 = φ9 0 y := fun y hy => by rw [e2, hf0 y hy]; exact night_0 hA1 h71 (by omega) hy
                    have hn4 : ∀ y, y < 12 → tellF ρ2 1 y 4 = 0 := fun y hy => by rw [e2]; exact night_4 h71 (by omega) hy
                    have hnb : ∀ y, y < 12 → (ab (tellF ρ2 1 y 1) = 60 ∨ tellF ρ2 1 y 1 - φ9 1 y = if nI (y % 2) = 0 then nI u5 else -nI u5) ∧ ¬ nI u5 < ab (tellF ρ2 1 y 1 - φ9 1 y) := fun y hy => by rw [e2, hf1 y hy]; exact night_by hA1 h71 (by omega) hy (hPi y hy) hu5 eu5
                    have hnc : ∀ y, y < 12 → tellF ρ2 1 y 2 = 0 → ¬ φ9 0 y ≤ 9 → φ9 2 y = 0 := fun y hy q1 q2 => by rw [hf2 y hy]; rw [hf0 y hy] at q2; rw [e2] at q1; exact night_c hA1 h71 (by omega) hy q1 q2
                    refine g_widen (k9 := (C1 + 300)) (n9 := (S1 + 2000)) (by omega) (by omega) ?_
                    refine g_iconst X (v := 0) dL_law_324 (by decide) ?_
                    refine g_istore X [(20, .int _), (19, .int _), (18, .int _), (17, .int _), (15, .long _), (0, .ref _), (1, .ref _), (2, .ref _), (3, .int _), (4, .int _), (5, .ref _), (6, .ref _), (7, .ref _), (8, .int _), (9, .int _), (10, .int _), (11, .int _), (12, .int _), (13, .int _), (14, .int _)] dL_law_325 (by decide) rfl ?_
                    refine g_widen (k9 := (C1 + 300) + 24 * 0) (n9 := (S1 + 2000) + 144 * 0) (by omega) (by omega) ?_
                    refine g_ls (ls' := [(0, .ref _), (1, .ref _), (2, .ref _), (3, .int _), (4, .int _), (5, .ref _), (6, .ref _), (7, .ref _), (17, .int _), (20, .int _)]) [5, 6, 7, 8, 9, 10, 11, 12, 3, 0] rfl ?_
                    refine g_loop (fun _ => True) (fun _ => jF 3 φ9 (wR S ρ2 ρ2)) (fun j => [(0, .ref b), (1, .ref (ad 0)), (2, .ref (ad 48)), (3, .int (nI i)), (4, .int x), (5, .ref q_1), (6, .ref q_3), (7, .ref q_5), (17, .int (nI u5)), (20, .int (nI j))]) (fun j => (C1 + 300) + 24 * j) (fun j => (S1 + 2000) + 144 * j) 12 0 trivial (by omega) rfl rfl rfl rfl (fun j h0j hj hIj ihj => ?_)
                    refine g_iload X dL_law_327 9 rfl ?_
                    refine g_bipush X (v := 12) dL_law_329 (by decide) ?_
                    refine g_icmp_geN X j 12 467 (by omega) (by omega) dL_law_331 (by decide) (fun c_17 => ?_) (fun c_17 => ?_)
                    · skip
                      refine g_goto X 586 dL_law_467 (by decide) ?_
                      refine g_popF ?_
                      refine g_0F ?_
                      refine g_ls (ls' := [(0, .ref _), (1, .ref _), (2, .ref _), (3, .int _), (4, .int _)]) [0, 1, 2, 3, 4] rfl ?_
                      exact g_widen (by omega) (by omega) (kk (ad, S, T, Ln, ρ2) (d + 1) rfl rfl (Inx_up hX2 (by omega) hN9) hLn2)
                    · skip
                      refine g_aload_n X dL_law_334 1 rfl rfl ?_
                      refine g_iload X dL_law_335 9 rfl ?_
                      refine g_iconst X (v := 1) dL_law_337 (by decide) ?_
                      refine g_yc (F := 3) X hE (gYI_1 (c_X3_pipe l hl0 D cy ad ρ2 (N + 1) T S (d + 1) hX2.1 (nI j) (nI 1)) (pip_ok (i := j) (w := 1) (by omega) (by omega))) kl_L_115 ⟨rfl, rfl, Nat.le_of_ble_eq_true rfl, Nat.le_of_ble_eq_true rfl⟩ rfl rfl (Nat.le_of_ble_eq_true rfl) dL_law_338 ⟨by show _ ≤ 600172; omega, by show _ ≤ 7300668; omega⟩ ?_
                      refine g_aload X dL_law_341 6 rfl ?_
                      refine g_iload X dL_law_343 9 rfl ?_
                      refine g_ialdN X 1 j (by show 1 < 3 + (48 + (8 + S + T)); omega) (jF_ai (gAI_x gAI_n (by decide)) (by decide)) (by omega) (by decide) dL_law_345 ?_
                      rw [jF_lo (show 1 < 3 by decide)]
                      refine g_isub X dL_law_346 ?_
                      refine g_istore X [(21, .int _), (0, .ref _), (1, .ref _), (2, .ref _), (3, .int _), (4, .int _), (5, .ref _), (6, .ref _), (7, .ref _), (17, .int _), (20, .int _)] dL_law_347 (by decide) rfl ?_
                      refine g_joinW 369 ((((C1 + 300) + 24 * j) + 3) + 3) ((((S1 + 2000) + 144 * j) + 18) + 18) (fun v9 : Int32 => (v9 = 0 ∧ ¬ ab (tellF ρ2 1 j 1) = 60) ∨ (v9 = 1 ∧ ab (tellF ρ2 1 j 1) = 60)) (fun kj_18 => ?_) (fun xq hxq => ?_)
                      · skip
                        refine g_aload_n X dL_law_349 2 rfl rfl ?_
                        refine g_iload X dL_law_350 10 rfl ?_
                        refine g_iconst X (v := 1) dL_law_352 (by decide) ?_
                        refine g_yc (F := 3) X hE (gYI_1 (c_X3_pipe l hl0 D cy ad ρ2 (N + 1) T S (d + 1) hX2.1 (nI j) (nI 1)) (pip_ok (i := j) (w := 1) (by omega) (by omega))) kl_L_115 ⟨rfl, rfl, Nat.le_of_ble_eq_true rfl, Nat.le_of_ble_eq_true rfl⟩ rfl rfl (Nat.le_of_ble_eq_true rfl) dL_law_353 ⟨by show _ ≤ 600172; omega, by show _ ≤ 7300668; omega⟩ ?_
                        refine g_mabs X km_L_131 kt_mabs ki_math kc_mabs ⟨Nat.le_of_ble_eq_true rfl, Nat.le_of_ble_eq_true rfl, by show _ ≤ 600172; omega, by show _ ≤ 7300668; omega⟩ dL_law_356 ?_
                        refine g_bipush X (v := 60) dL_law_359 (by decide) ?_
                        refine g_icmp_ne X 368 dL_law_361 (by decide) (fun c_19 => ?_) (fun c_19 => ?_)
                        · skip
                          have cp := c_19
                          refine g_iconst X (v := 0) dL_law_368 (by decide) ?_
                          exact g_widen (by omega) (by omega) (kj_18 _ (Or.inl ⟨rfl, cp⟩))
                        · skip
                          have cp := c_19
                          refine g_iconst X (v := 1) dL_law_364 (by decide) ?_
                          refine g_goto X 369 dL_law_365 (by decide) ?_
                          exact g_widen (by omega) (by omega) (kj_18 _ (Or.inr ⟨rfl, cp⟩))
                      refine g_istore X [(22, .int _), (21, .int _), (0, .ref _), (1, .ref _), (2, .ref _), (3, .int _), (4, .int _), (5, .ref _), (6, .ref _), (7, .ref _), (17, .int _), (20, .int _)] dL_law_369 (by decide) rfl ?_
                      refine g_aload_n X dL_law_371 3 rfl rfl ?_
                      refine g_iload X dL_law_372 11 rfl ?_
                      refine g_iconst X (v := 0) dL_law_374 (by decide) ?_
                      refine g_yc (F := 3) X hE (gYI_1 (c_X3_pipe l hl0 D cy ad ρ2 (N + 1) T S (d + 1) hX2.1 (nI j) (nI 0)) (pip_ok (i := j) (w := 0) (by omega) (by omega))) kl_L_115 ⟨rfl, rfl, Nat.le_of_ble_eq_true rfl, Nat.le_of_ble_eq_true rfl⟩ rfl rfl (Nat.le_of_ble_eq_true rfl) dL_law_375 ⟨by show _ ≤ 600172; omega, by show _ ≤ 7300668; omega⟩ ?_
                      refine g_aload X dL_law_378 7 rfl ?_
                      refine g_iload X dL_law_380 11 rfl ?_
                      refine g_ialdN X 0 j (by show 0 < 3 + (48 + (8 + S + T)); omega) (jF_ai (gAI_x (gAI_x gAI_n (by decide)) (by decide)) (by decide)) (by omega) (by decide) dL_law_382 ?_
                      rw [jF_lo (show 0 < 3 by decide)]
                      refine g_icmp_ne X 459 dL_law_383 (by decide) (fun c_20 => ?_) (fun c_20 => ?_)
                      · exfalso; exact c_20 (hn0 j (by omega))
                      · skip
                        refine g_aload_n X dL_law_386 3 rfl rfl ?_
                        refine g_iload X dL_law_387 11 rfl ?_
                        refine g_iconst X (v := 4) dL_law_389 (by decide) ?_
                        refine g_yc (F := 3) X hE (gYI_1 (c_X3_pipe l hl0 D cy ad ρ2 (N + 1) T S (d + 1) hX2.1 (nI j) (nI 4)) (pip_ok (i := j) (w := 4) (by omega) (by omega))) kl_L_115 ⟨rfl, rfl, Nat.le_of_ble_eq_true rfl, Nat.le_of_ble_eq_true rfl⟩ rfl rfl (Nat.le_of_ble_eq_true rfl) dL_law_390 ⟨by show _ ≤ 600172; omega, by show _ ≤ 7300668; omega⟩ ?_
                        refine g_if_ne X 459 dL_law_393 (by decide) (fun c_21 => ?_) (fun c_21 => ?_)
                        · exfalso; exact c_21 (hn4 j (by omega))
                        · skip
                          refine g_join0W 421 (((((((C1 + 300) + 24 * j) + 3) + 3) + 3) + 3) + 0) (((((((S1 + 2000) + 144 * j) + 18) + 18) + 18) + 18) + 0) [(0, .ref b), (1, .ref (ad 0)), (2, .ref (ad 48)), (3, .int (nI i)), (4, .int x), (5, .ref q_1), (6, .ref q_3), (7, .ref q_5), (17, .int (nI u5)), (20, .int (nI j)), (21, .int (tellF ρ2 1 j 1 - φ9 1 j))] (fun kj_22 => ?_) ?_
                          · skip
                            refine g_iload X dL_law_396 0 rfl ?_
                            refine g_if_ne X 421 dL_law_398 (by decide) (fun c_23 => ?_) (fun c_23 => ?_)
                            · skip
                              refine g_ls (ls' := [(0, .ref _), (1, .ref _), (2, .ref _), (3, .int _), (4, .int _), (5, .ref _), (6, .ref _), (7, .ref _), (17, .int _), (20, .int _), (21, .int _)]) [2, 3, 4, 5, 6, 7, 8, 9, 10, 11, 1] rfl ?_
                              exact g_widen (by omega) (by omega) kj_22
                            · skip
                              have hby := (hnb j (by omega)).1.resolve_left (hxq.elim (fun q => q.2) (fun q => absurd (q.1.symm.trans c_23) (by decide)))
                              refine g_iload X dL_law_401 1 rfl ?_
                              refine g_iload X dL_law_403 11 rfl ?_
                              refine g_iconst X (v := 2) dL_law_405 (by decide) ?_
                              refine g_irem X dL_law_406 (by decide) ?_
                              rw [show nI j - nI j / 2 * 2 = nI (j % 2) from pk_rem (d := 2) (by omega) (by omega) (by omega)]
                              refine g_if_ne X 415 dL_law_407 (by decide) (fun c_24 => ?_) (fun c_24 => ?_)
                              · skip
                                rw [if_neg c_24] at hby
                                refine g_iload X dL_law_415 10 rfl ?_
                                refine g_ineg X dL_law_417 ?_
                                refine g_icmp_ne X 459 dL_law_418 (by decide) (fun c_25 => ?_) (fun c_25 => ?_)
                                · exfalso; exact c_25 hby
                                · skip
                                  refine g_ls (ls' := [(0, .ref _), (1, .ref _), (2, .ref _), (3, .int _), (4, .int _), (5, .ref _), (6, .ref _), (7, .ref _), (17, .int _), (20, .int _), (21, .int _)]) [2, 3, 4, 5, 6, 7, 8, 9, 10, 11, 1] rfl ?_
                                  exact g_widen (by omega) (by omega) kj_22
                              · skip
                                rw [if_pos c_24] at hby
                                refine g_iload X dL_law_410 10 rfl ?_
                                refine g_goto X 418 dL_law_412 (by decide) ?_
                                refine g_icmp_ne X 459 dL_law_418 (by decide) (fun c_26 => ?_) (fun c_26 => ?_)
                                · exfalso; exact c_26 hby
                                · skip
                                  refine g_ls (ls' := [(0, .ref _), (1, .ref _), (2, .ref _), (3, .int _), (4, .int _), (5, .ref _), (6, .ref _), (7, .ref _), (17, .int _), (20, .int _), (21, .int _)]) [2, 3, 4, 5, 6, 7, 8, 9, 10, 11, 1] rfl ?_
                                  exact g_widen (by omega) (by omega) kj_22
                          refine g_iload X dL_law_421 10 rfl ?_
                          refine g_mabs X km_L_131 kt_mabs ki_math kc_mabs ⟨Nat.le_of_ble_eq_true rfl, Nat.le_of_ble_eq_true rfl, by show _ ≤ 600172; omega, by show _ ≤ 7300668; omega⟩ dL_law_423 ?_
                          refine g_iload X dL_law_426 8 rfl ?_
                          refine g_icmp_gt X 459 dL_law_428 (by decide) (fun c_27 => ?_) (fun c_27 => ?_)
                          · exfalso; exact (hnb j (by omega)).2 c_27
                          · skip
                            refine g_aload_n X dL_law_431 1 rfl rfl ?_
                            refine g_iload X dL_law_432 9 rfl ?_
                            refine g_iconst X (v := 2) dL_law_434 (by decide) ?_
                            refine g_yc (F := 3) X hE (gYI_1 (c_X3_pipe l hl0 D cy ad ρ2 (N + 1) T S (d + 1) hX2.1 (nI j) (nI 2)) (pip_ok (i := j) (w := 2) (by omega) (by omega))) kl_L_115 ⟨rfl, rfl, Nat.le_of_ble_eq_true rfl, Nat.le_of_ble_eq_true rfl⟩ rfl rfl (Nat.le_of_ble_eq_true rfl) dL_law_435 ⟨by show _ ≤ 600172; omega, by show _ ≤ 7300668; omega⟩ ?_
                            refine g_if_ne X 461 dL_law_438 (by decide) (fun c_28 => ?_) (fun c_28 => ?_)
                            · skip
                              refine g_iincN X j 20 [(20, .int _), (0, .ref _), (1, .ref _), (2, .ref _), (3, .int _), (4, .int _), (5, .ref _), (6, .ref _), (7, .ref _), (17, .int _), (21, .int _)] 9 dL_law_461 rfl (by decide) rfl ?_
                              refine g_goto X 327 dL_law_464 (by decide) ?_
                              refine g_ls (ls' := [(0, .ref _), (1, .ref _), (2, .ref _), (3, .int _), (4, .int _), (5, .ref _), (6, .ref _), (7, .ref _), (17, .int _), (20, .int _)]) [1, 2, 3, 4, 5, 6, 7, 8, 9, 0] rfl ?_
                              refine g_widen (k9 := ((C1 + 300) + 24 * (j + 1))) (n9 := ((S1 + 2000) + 144 * (j + 1))) (by omega) (by omega) ?_
                              exact g_eqv (ihj (by omega) trivial) (rfl) (rfl) rfl rfl
                            · skip
                              have ccr := c_28
                              refine g_aload X dL_law_441 5 rfl ?_
                              refine g_iload X dL_law_443 9 rfl ?_
                              refine g_ialdN X 0 j (by show 0 < 3 + (48 + (8 + S + T)); omega) (jF_ai (gAI_x (gAI_x gAI_n (by decide)) (by decide)) (by decide)) (by omega) (by decide) dL_law_445 ?_
                              rw [jF_lo (show 0 < 3 by decide)]
                              refine g_bipush X (v := 9) dL_law_446 (by decide) ?_
                              refine g_icmp_le X 461 dL_law_448 (by decide) (fun c_29 => ?_) (fun c_29 => ?_)
                              · skip
                                refine g_iincN X j 20 [(20, .int _), (0, .ref _), (1, .ref _), (2, .ref _), (3, .int _), (4, .int _), (5, .ref _), (6, .ref _), (7, .ref _), (17, .int _), (21, .int _)] 9 dL_law_461 rfl (by decide) rfl ?_
                                refine g_goto X 327 dL_law_464 (by decide) ?_
                                refine g_ls (ls' := [(0, .ref _), (1, .ref _), (2, .ref _), (3, .int _), (4, .int _), (5, .ref _), (6, .ref _), (7, .ref _), (17, .int _), (20, .int _)]) [1, 2, 3, 4, 5, 6, 7, 8, 9, 0] rfl ?_
                                refine g_widen (k9 := ((C1 + 300) + 24 * (j + 1))) (n9 := ((S1 + 2000) + 144 * (j + 1))) (by omega) (by omega) ?_
                                exact g_eqv (ihj (by omega) trivial) (rfl) (rfl) rfl rfl
                              · skip
                                have cw9 := c_29
                                refine g_aload X dL_law_451 7 rfl ?_
                                refine g_iload X dL_law_453 9 rfl ?_
                                refine g_zaldN X 2 j (by show 2 < 3 + (48 + (8 + S + T)); omega) (jF_ai gAI_n (by decide)) (by omega) (by decide) dL_law_455 ?_
                                rw [jF_lo (show 2 < 3 by decide)]
                                refine g_if_eq X 461 dL_law_456 (by decide) (fun c_30 => ?_) (fun c_30 => ?_)
                                · skip
                                  refine g_iincN X j 20 [(20, .int _), (0, .ref _), (1, .ref _), (2, .ref _), (3, .int _), (4, .int _), (5, .ref _), (6, .ref _), (7, .ref _), (17, .int _), (21, .int _)] 9 dL_law_461 rfl (by decide) rfl ?_
                                  refine g_goto X 327 dL_law_464 (by decide) ?_
                                  refine g_ls (ls' := [(0, .ref _), (1, .ref _), (2, .ref _), (3, .int _), (4, .int _), (5, .ref _), (6, .ref _), (7, .ref _), (17, .int _), (20, .int _)]) [1, 2, 3, 4, 5, 6, 7, 8, 9, 0] rfl ?_
                                  refine g_widen (k9 := ((C1 + 300) + 24 * (j + 1))) (n9 := ((S1 + 2000) + 144 * (j + 1))) (by omega) (by omega) ?_
                                  exact g_eqv (ihj (by omega) trivial) (rfl) (rfl) rfl rfl
                                · exfalso; exact c_30 (hnc j (by omega) ccr cw9)
                  · exfalso; exact c_16 hC0
        · exfalso; exact c_11 (lcmp_rf _)
    · skip
      refine g_iload X dL_law_184 14 rfl ?_
      refine g_aload_n X dL_law_186 1 rfl rfl ?_
      refine g_iload X dL_law_187 15 rfl ?_
      refine g_iconst X (v := 3) dL_law_189 (by decide) ?_
      refine g_yc (F := 3) X hE (gYI_1 (c_X3_told l hl0 D cy ad ρ N T S d hI (nI z) (nI 3)) (tol_ok (z := z) (w := 3) hS hS8 (by omega) (by omega))) kl_L_121 ⟨rfl, rfl, Nat.le_of_ble_eq_true rfl, Nat.le_of_ble_eq_true rfl⟩ rfl rfl (Nat.le_of_ble_eq_true rfl) dL_law_190 ⟨by show _ ≤ 600172; omega, by show _ ≤ 7300668; omega⟩ ?_
      refine g_iadd X dL_law_193 ?_
      refine g_istore X [(14, .int _), (0, .ref _), (1, .ref _), (2, .ref _), (3, .int _), (4, .int _), (5, .ref _), (6, .ref _), (7, .ref _), (8, .int _), (9, .int _), (10, .int _), (11, .int _), (12, .int _), (13, .int _), (15, .int _)] dL_law_194 (by decide) rfl ?_
      refine g_iincN X z 15 [(15, .int _), (14, .int _), (0, .ref _), (1, .ref _), (2, .ref _), (3, .int _), (4, .int _), (5, .ref _), (6, .ref _), (7, .ref _), (8, .int _), (9, .int _), (10, .int _), (11, .int _), (12, .int _), (13, .int _)] 15 dL_law_196 rfl (by decide) rfl ?_
      refine g_goto X 177 dL_law_199 (by decide) ?_
      refine g_ls (ls' := [(0, .ref _), (1, .ref _), (2, .ref _), (3, .int _), (4, .int _), (5, .ref _), (6, .ref _), (7, .ref _), (8, .int _), (9, .int _), (10, .int _), (11, .int _), (12, .int _), (13, .int _), (14, .int _), (15, .int _)]) [2, 3, 4, 5, 6, 7, 8, 9, 10, 11, 12, 13, 14, 15, 1, 0] rfl ?_
      refine g_widen (k9 := ((((((((C1 + 120) + 3) + 3) + 3) + 3) + 3) + 3) + 3 * (z + 1))) (n9 := ((((((((S1 + 800) + 18) + 18) + 18) + 18) + 18) + 18) + 18 * (z + 1))) (by omega) (by omega) ?_
      exact g_eqv (ihz (by omega) trivial) ((by rw [sumI_s]; rfl)) (rfl) rfl rfl
  · skip
    refine g_aload X dL_law_78 5 rfl ?_
    refine g_iload X dL_law_80 8 rfl ?_
    refine g_aload_n X dL_law_82 1 rfl rfl ?_
    refine g_iload X dL_law_83 8 rfl ?_
    refine g_iconst X (v := 0) dL_law_85 (by decide) ?_
    refine g_yc (F := 3) X hE (gYI_1 (c_X3_pipe l hl0 D cy ad ρ N T S d hI (nI w) (nI 0)) (pip_ok (i := w) (w := 0) (by omega) (by omega))) kl_L_115 ⟨rfl, rfl, Nat.le_of_ble_eq_true rfl, Nat.le_of_ble_eq_true rfl⟩ rfl rfl (Nat.le_of_ble_eq_true rfl) dL_law_86 ⟨by show _ ≤ 600172; omega, by show _ ≤ 7300668; omega⟩ ?_
    refine g_iastN X 0 w (by show 0 < 3 + (48 + (8 + S + T)); omega) (jF_ai (gAI_x (gAI_x gAI_n (by decide)) (by decide)) (by decide)) (by omega) (by omega) dL_law_89 (fun ρ_31 eρ_31 => ?_)
    obtain ⟨φ_32, sφ_32, rfl⟩ := wFl eρ_31 (show 0 < 3 by decide)
    refine g_aload X dL_law_90 6 rfl ?_
    refine g_iload X dL_law_92 8 rfl ?_
    refine g_aload_n X dL_law_94 1 rfl rfl ?_
    refine g_iload X dL_law_95 8 rfl ?_
    refine g_iconst X (v := 1) dL_law_97 (by decide) ?_
    refine g_yc (F := 3) X hE (gYI_1 (c_X3_pipe l hl0 D cy ad ρ N T S d hI (nI w) (nI 1)) (pip_ok (i := w) (w := 1) (by omega) (by omega))) kl_L_115 ⟨rfl, rfl, Nat.le_of_ble_eq_true rfl, Nat.le_of_ble_eq_true rfl⟩ rfl rfl (Nat.le_of_ble_eq_true rfl) dL_law_98 ⟨by show _ ≤ 600172; omega, by show _ ≤ 7300668; omega⟩ ?_
    refine g_iastN X 1 w (by show 1 < 3 + (48 + (8 + S + T)); omega) (jF_ai (gAI_x gAI_n (by decide)) (by decide)) (by omega) (by omega) dL_law_101 (fun ρ_33 eρ_33 => ?_)
    obtain ⟨φ_34, sφ_34, rfl⟩ := wFl eρ_33 (show 1 < 3 by decide)
    refine g_aload X dL_law_102 7 rfl ?_
    refine g_iload X dL_law_104 8 rfl ?_
    refine g_joinW 121 (((((((C1 + 1) + 1) + 1) + 9 * w) + 3) + 3) + 3) (((((((S1 + 12) + 12) + 12) + 54 * w) + 18) + 18) + 18) (fun v9 : Int32 => v9 = silF ρ w) (fun kj_35 => ?_) (fun v9 hv9 => ?_)
    · skip
      refine g_aload_n X dL_law_106 1 rfl rfl ?_
      refine g_iload X dL_law_107 8 rfl ?_
      refine g_iconst X (v := 4) dL_law_109 (by decide) ?_
      refine g_yc (F := 3) X hE (gYI_1 (c_X3_pipe l hl0 D cy ad ρ N T S d hI (nI w) (nI 4)) (pip_ok (i := w) (w := 4) (by omega) (by omega))) kl_L_115 ⟨rfl, rfl, Nat.le_of_ble_eq_true rfl, Nat.le_of_ble_eq_true rfl⟩ rfl rfl (Nat.le_of_ble_eq_true rfl) dL_law_110 ⟨by show _ ≤ 600172; omega, by show _ ≤ 7300668; omega⟩ ?_
      refine g_if_ne X 120 dL_law_113 (by decide) (fun c_36 => ?_) (fun c_36 => ?_)
      · skip
        have cz := c_36
        refine g_iconst X (v := 0) dL_law_120 (by decide) ?_
        exact g_widen (by omega) (by omega) (kj_35 _ ((if_neg cz).symm))
      · skip
        have cz := c_36
        refine g_iconst X (v := 1) dL_law_116 (by decide) ?_
        refine g_goto X 121 dL_law_117 (by decide) ?_
        exact g_widen (by omega) (by omega) (kj_35 _ ((if_pos cz).symm))
    subst hv9
    refine g_zastN X 2 w (by show 2 < 3 + (48 + (8 + S + T)); omega) (jF_ai gAI_n (by decide)) (vp_z01 sil_01) (by omega) (by omega) dL_law_121 (fun ρ_37 eρ_37 => ?_)
    obtain ⟨φ_38, sφ_38, rfl⟩ := wFl eρ_37 (show 2 < 3 by decide)
    refine g_iincN X w 8 [(8, .int _), (0, .ref _), (1, .ref _), (2, .ref _), (3, .int _), (4, .int _), (5, .ref _), (6, .ref _), (7, .ref _)] 8 dL_law_122 rfl (by decide) rfl ?_
    refine g_goto X 71 dL_law_125 (by decide) ?_
    refine g_ls (ls' := [(0, .ref _), (1, .ref _), (2, .ref _), (3, .int _), (4, .int _), (5, .ref _), (6, .ref _), (7, .ref _), (8, .int _)]) [1, 2, 3, 4, 5, 6, 7, 8, 0] rfl ?_
    refine g_widen (k9 := ((((C1 + 1) + 1) + 1) + 9 * (w + 1))) (n9 := ((((S1 + 12) + 12) + 12) + 54 * (w + 1))) (by omega) (by omega) ?_
    exact g_eqv (ihw (by omega) trivial) (rfl) ((by rw [show φ_38 = frA ρ (w + 1) by subst_vars; exact frA_s])) rfl rfl

end LGA
