/-! The law: its loop -/
section LGL
variable {p : Program} {l : Launch} {e : Env} {s : State} {m : MethodId} {args : Array Value} {below : List Frame} {meth : Method} {c : Code} {Q : State → Prop}
variable {Ts : List Cond} {D : va_G} {cy : Nat → ClassId} {A : Nat → Prop}
variable {ad : Nat → Nat} {ρ : gSt} {C1 S1 : Nat} {S T N d i b : Nat} {Ln : Nat → Nat} {x : Int32}
set_option maxHeartbeats 4000000 in
set_option maxRecDepth 100000 in
theorem law_loop {L : Nat} {xs : Nat → Int32} (X : gX p m c cL_law 23 s args Ts RL D cy A) (hl0 : l.stackTraces = false) (hE : gEnv s A) (hZ : zAO s) (hSX : va_X b L xs s s.heap) (hbl : b < s.heap.size) (hbA : ¬ A b) (hLL : L ≤ 260) (kend : ∀ (ad : Nat → Nat) (S T : Nat) (Ln : Nat → Nat) (ρ : gSt) (d : Nat), Inx ρ 540 T S d → LnOK ρ T Ln → GW p l e { frames := 12, cells := 600172, slots := 7300668, locals := 442 } s m args below meth c Q 23 D A (48 + (8 + S + T)) ad (cW ad cy S T Ln) (wR S ρ ρ) 400000 4000000 1112 [(0, .ref b), (1, .ref (ad 0)), (2, .ref (ad 48)), (3, .int (nI 50))] []) : ∀ (f i : Nat), i + f = 50 → ∀ (ad : Nat → Nat) (S T : Nat) (Ln : Nat → Nat) (ρ : gSt) (d : Nat), Inx ρ (240 + 6 * i) T S d → LnOK ρ T Ln → GW p l e { frames := 12, cells := 600172, slots := 7300668, locals := 442 } s m args below meth c Q 23 D A (48 + (8 + S + T)) ad (cW ad cy S T Ln) (wR S ρ ρ) (1200 + 6000 * i) (6000 + 36000 * i) 22 [(0, .ref b), (1, .ref (ad 0)), (2, .ref (ad 48)), (3, .int (nI i))] [] := by
  intro f
  induction f with
  | zero =>
    intro i hi ad S T Ln ρ d hX hLn
    obtain rfl : i = 50 := by omega
    refine g_iload_n X dL_law_22 3 rfl rfl ?_
    refine g_bipush X (v := 50) dL_law_23 (by decide) ?_
    refine g_icmp_geN X 50 50 1112 (by omega) (by omega) dL_law_25 (by decide) (fun h => ?_) (fun h => ?_)
    · exact g_widen (by omega) (by omega) (kend ad S T Ln ρ d hX hLn)
    · omega
  | succ f ih9 =>
    intro i hi ad S T Ln ρ d hX hLn
    refine g_F0 (fa := fun _ => 0) (fz := fun _ _ => .inr (0, [])) (φ := z0) ?_
    refine g_iload_n X dL_law_22 3 rfl rfl ?_
    refine g_bipush X (v := 50) dL_law_23 (by decide) ?_
    refine g_icmp_geN X i 50 1112 (by omega) (by omega) dL_law_25 (by decide) (fun c_1 => ?_) (fun c_1 => ?_)
    · exfalso; omega
    · skip
      refine g_aload_n X dL_law_28 0 rfl rfl ?_
      refine g_iload_n X dL_law_29 3 rfl rfl ?_
      refine g_bipush X (v := 16) dL_law_30 (by decide) ?_
      refine g_irem X dL_law_32 (by decide) ?_
      rw [show nI i - nI i / 16 * 16 = nI (i % 16) from pk_rem (d := 16) (by omega) (by omega) (by omega)]
      refine g_cell X hSX hbl hbA (by omega) hLL kl_L_96 ⟨Nat.le_of_ble_eq_true rfl, Nat.le_of_ble_eq_true rfl⟩ (Nat.le_of_ble_eq_true rfl) dL_law_33 ⟨by show _ ≤ 600172; omega, by show _ ≤ 7300668; omega⟩ (fun xc_2 => ?_)
      refine g_iload_n X dL_law_36 3 rfl rfl ?_
      refine g_bipush X (v := 16) dL_law_37 (by decide) ?_
      refine g_idiv X dL_law_39 (by decide) ?_
      refine g_iconst X (v := 5) dL_law_40 (by decide) ?_
      refine g_imul X dL_law_41 ?_
      refine g_ishr X dL_law_42 ?_
      refine g_bipush X (v := 53) dL_law_43 (by decide) ?_
      refine g_iload_n X dL_law_45 3 rfl rfl ?_
      refine g_imul X dL_law_46 ?_
      refine g_iadd X dL_law_47 ?_
      refine g_istore X [(4, .int _), (0, .ref _), (1, .ref _), (2, .ref _), (3, .int _)] dL_law_48 (by decide) rfl ?_
      refine g_0F ?_
      refine g_ls (ls' := [(0, .ref _), (1, .ref _), (2, .ref _), (3, .int _), (4, .int _)]) [1, 2, 3, 4, 0] rfl ?_
      refine law_AB (C1 := 1200 + 6000 * i) (S1 := 6000 + 36000 * i) (i := i) (N := 240 + 6 * i) X hl0 hE hZ hX hLn (by omega) (by omega) (by omega) (fun u d9 q1 q2 q3 q4 => ?_)
      refine law_G (C1 := 1200 + 6000 * i + 1500) (S1 := 6000 + 36000 * i + 9000) (N := 240 + 6 * i + 5) (d := d9) X hl0 hE hZ q3 q4 (by omega) (by omega) (by omega) (fun ρ3 r1 r2 => ?_)
      refine g_iincN X i 3 [(3, .int _), (0, .ref _), (1, .ref _), (2, .ref _)] 3 dL_law_1106 rfl (by decide) rfl ?_
      refine g_goto X 22 dL_law_1109 (by decide) ?_
      refine g_ls (ls' := [(0, .ref _), (1, .ref _), (2, .ref _), (3, .int _)]) [1, 2, 3, 0] rfl ?_
      refine g_widen (k9 := 1200 + 6000 * (i + 1)) (n9 := 6000 + 36000 * (i + 1)) (by omega) (by omega) ?_
      exact ih9 (i + 1) (by omega) _ _ _ _ _ _ (Inx_up r1 (by omega) (by omega)) r2
/-- the end -/
theorem law_end (X : gX p m c cL_law 23 s args Ts RL D cy A) (hl0 : l.stackTraces = false) (hE : gEnv s A) (hX : Inx ρ N T S d) (hLn : LnOK ρ T Ln) {ls : List (Nat × Value)} (h1 : ls[1]? = some (1, .ref (ad 0))) (h2 : ls[2]? = some (2, .ref (ad 48))) (kk : GW p l e { frames := 12, cells := 600172, slots := 7300668, locals := 442 } s m args below meth c Q 23 D A (48 + (8 + S + T)) ad (cW ad cy S T Ln) (wR S ρ ρ) 600172 7300668 1117 ls [.int 1]) : GW p l e { frames := 12, cells := 600172, slots := 7300668, locals := 442 } s m args below meth c Q 23 D A (48 + (8 + S + T)) ad (cW ad cy S T Ln) (wR S ρ ρ) 400000 4000000 1112 ls [] := by
  refine g_aload_n X dL_law_1112 2 rfl h2 ?_
  refine g_aload_n X dL_law_1113 1 rfl h1 ?_
  refine g_y_at X hE 48 0 (wR S ρ ρ) (fun j hj => by rw [Nat.zero_add]) (c_X4_isSame l hl0 D cy ad ρ S T N d Ln hX.1 hLn hX.2.1) kl_L_152 ⟨rfl, rfl, Nat.le_of_ble_eq_true rfl, Nat.le_of_ble_eq_true rfl⟩ gSub_self (by omega) (gSub_ob (off := 48) sub_S lS_O (by omega)) kv_X4 rfl rfl (Nat.le_of_ble_eq_true rfl) dL_law_1114 ⟨Nat.le_of_ble_eq_true rfl, Nat.le_of_ble_eq_true rfl⟩ (fun r ρ1 h => ?_)
  obtain ⟨rfl, rfl⟩ := h
  refine g_widen (k9 := 600172) (n9 := 7300668) (Nat.le_of_ble_eq_true rfl) (Nat.le_of_ble_eq_true rfl) ?_
  refine g_congr (fun k hk => ?_) kk
  unfold gBack
  by_cases h9 : 0 ≤ k ∧ k < 0 + (48 + (8 + S + T))
  · rw [if_pos h9, Nat.sub_zero]
  · omega
end LGL
section NN9
variable {p : Program} {l : Launch} {e : Env} {R : Room} {s : State} {m : MethodId} {args : Array Value} {below : List Frame} {meth : Method} {c : Code} {Q : State → Prop}
variable {cc : ByteArray} {nL : Nat} {Ts : List Cond} {own : String} {D : va_G} {cy : Nat → ClassId} {A : Nat → Prop}
variable {n : Nat} {ad : Nat → Nat} {cz : Nat → (Nat → Int32) → va_E} {ρ : gSt} {cells slots pc : Nat} {ls : List (Nat × Value)} {st : List Value}
theorem g_ifnonnull (X : gX p m c cc nL s args Ts own D cy A) {q : Nat} {off : Int} (tgt : Nat) (hd : decode cc pc = .ok (.ifnonnull off, 3)) (ht : (pc : Int) + off = (tgt : Int)) (kt : GW p l e R s m args below meth c Q nL D A n ad cz ρ cells slots tgt ls st) : GW p l e R s m args below meth c Q nL D A n ad cz ρ cells slots pc ls (.ref q :: st) := fun H locs la hP hD hS hl => lv_ifnonnull X.1.1 X.1.2.1 hd ht (kt H locs la hP hD hS hl)
end NN9
