/-! The law: what it asks of the pipes -/
theorem hm_b1 {w o q : Int32} (h : b01 q = 1) : (60 : Int32) = hm w o q := by
  unfold b01 at h
  unfold hm
  by_cases q0 : q = 0
  · rw [if_pos q0] at h
    exact absurd h (by decide)
  · rw [if_neg q0]
theorem hm_b0 {w o q : Int32} (h : ¬ b01 q = 1) : mnI 60 (ab o + 2 * w) = hm w o q := by
  unfold b01 at h
  unfold hm
  by_cases q0 : q = 0
  · rw [if_pos q0]
  · rw [if_neg q0] at h
    exact absurd rfl h
theorem ab_60 {o : Int32} (h1 : -60 ≤ o) (h2 : o ≤ 60) : ab o ≤ 60 := by
  unfold ab
  by_cases h : 0 ≤ o
  · rw [if_pos h]
    exact h2
  · rw [if_neg h]
    have h3 := Int32.le_iff_toInt_le.mp h1
    have h4 := Int32.le_iff_toInt_le.mp h2
    have h5 : ¬ (0 : Int32).toInt ≤ o.toInt := fun q => h (Int32.le_iff_toInt_le.mpr q)
    refine Int32.le_iff_toInt_le.mpr ?_
    rw [Int32.toInt_sub]
    simp only [show (-60 : Int32).toInt = -60 from rfl, show (60 : Int32).toInt = 60 from rfl, show (0 : Int32).toInt = 0 from rfl] at *
    rw [Int.bmod_eq_of_le (by omega) (by omega)]
    omega
theorem pipes_ok {ρ : gSt} {j : Nat} (h : pipI ρ 1 j) : ¬ tellF ρ 1 j 0 < 0 ∧ ¬ 30 < tellF ρ 1 j 0 ∧ ¬ 60 < ab (tellF ρ 1 j 1) := by
  obtain ⟨⟨w, hw, ew⟩, ⟨h1, h2⟩, _, _⟩ := h
  have e0 : tellF ρ 1 j 0 = nI w := ew
  rw [e0]
  exact ⟨(inl_of (t := w) (T := 30) hw (by omega)).1, Int32.not_lt.mpr ((nI_leI (a := w) (b := 30) (by omega) (by omega)).mpr hw), Int32.not_lt.mpr (ab_60 h1 h2)⟩
section JW
variable {p : Program} {l : Launch} {e : Env} {R : Room} {s : State} {m : MethodId} {args : Array Value} {below : List Frame} {meth : Method} {c : Code} {Q : State → Prop}
variable {cc : ByteArray} {nL : Nat} {Ts : List Cond} {own : String} {D : va_G} {cy : Nat → ClassId} {A : Nat → Prop}
variable {n n' : Nat} {ad ad' : Nat → Nat} {cz cz' : Nat → (Nat → Int32) → va_E} {ρ ρ' : gSt} {cells slots pc : Nat} {ls ls' : List (Nat × Value)} {st st0 rest : List Value}
variable {y : MethodName} {rm : Room} {bytes : ByteArray} {maxL nA index mc ms : Nat} {ret : Option FieldType} {C : String} {Tf : u_T} {Nf ci : Nat} {As : List Value}
theorem g_joinW (tgt c' s' : Nat) (P : Int32 → Prop) (k2 : (∀ x : Int32, P x → GW p l e R s m args below meth c Q nL D A n ad cz ρ c' s' tgt ls (.int x :: st)) → GW p l e R s m args below meth c Q nL D A n ad cz ρ cells slots pc ls st) (kk : ∀ x : Int32, P x → GW p l e R s m args below meth c Q nL D A n ad cz ρ c' s' tgt ls (.int x :: st)) : GW p l e R s m args below meth c Q nL D A n ad cz ρ cells slots pc ls st := k2 kk
end JW
section LGD
variable {p : Program} {l : Launch} {e : Env} {s : State} {m : MethodId} {args : Array Value} {below : List Frame} {meth : Method} {c : Code} {Q : State → Prop}
variable {Ts : List Cond} {D : va_G} {cy : Nat → ClassId} {A : Nat → Prop}
variable {ad : Nat → Nat} {ρ : gSt} {C1 S1 : Nat} {S T N d i b : Nat} {Ln : Nat → Nat} {x : Int32}
set_option maxHeartbeats 4000000 in
set_option maxRecDepth 100000 in
theorem law_D (X : gX p m c cL_law 23 s args Ts RL D cy A) (hl0 : l.stackTraces = false) (hE : gEnv s A) (hZ : zAO s) (hX : Inx ρ N T S d) (hLn : LnOK ρ T Ln) (hc1 : C1 + 400 ≤ 600172) (hs1 : S1 + 2400 ≤ 7300668)  (kk : GW p l e { frames := 12, cells := 600172, slots := 7300668, locals := 442 } s m args below meth c Q 23 D A (48 + (8 + S + T)) ad (cW ad cy S T Ln) (wR S ρ ρ) (C1 + 400) (S1 + 2400) 710 [(0, .ref b), (1, .ref (ad 0)), (2, .ref (ad 48)), (3, .int (nI i)), (4, .int x), (12, .int (nI T)), (13, .int (nI S))] []) : GW p l e { frames := 12, cells := 600172, slots := 7300668, locals := 442 } s m args below meth c Q 23 D A (48 + (8 + S + T)) ad (cW ad cy S T Ln) (wR S ρ ρ) C1 S1 600 [(0, .ref b), (1, .ref (ad 0)), (2, .ref (ad 48)), (3, .int (nI i)), (4, .int x), (12, .int (nI T)), (13, .int (nI S))] [] := by
  obtain ⟨hT, hT6, hS, hS8, hd, hdN, hN, hTu0, hSt, hPi, hZ9, hHd⟩ := id hX.1
  have hI := hX.1
  have hTu : ∀ t, t < T → tunI ρ t := fun t ht => hTu0 t (by omega)
  have hwd : wdF ρ = nI (d % 7) := by unfold wdF; rw [hd, nI_clamp (by omega)]
  refine g_F0 (fa := fun _ => 0) (fz := fun _ _ => .inr (0, [])) (φ := z0) ?_
  refine g_iconst X (v := 0) dL_law_600 (by decide) ?_
  refine g_istore X [(17, .int _), (0, .ref _), (1, .ref _), (2, .ref _), (3, .int _), (4, .int _), (12, .int _), (13, .int _)] dL_law_601 (by decide) rfl ?_
  refine g_widen (k9 := C1 + 24 * 0) (n9 := S1 + 144 * 0) (by omega) (by omega) ?_
  refine g_ls (ls' := [(0, .ref _), (1, .ref _), (2, .ref _), (3, .int _), (4, .int _), (12, .int _), (13, .int _), (17, .int _)]) [1, 2, 3, 4, 5, 6, 7, 0] rfl ?_
  refine g_loop (fun _ => True) (fun _ => jF 0 z0 (wR S ρ ρ)) (fun j => [(0, .ref b), (1, .ref (ad 0)), (2, .ref (ad 48)), (3, .int (nI i)), (4, .int x), (12, .int (nI T)), (13, .int (nI S)), (17, .int (nI j))]) (fun j => C1 + 24 * j) (fun j => S1 + 144 * j) 12 0 trivial (by omega) rfl rfl rfl rfl (fun j h0j hj hIj ihj => ?_)
  refine g_iload X dL_law_603 7 rfl ?_
  refine g_bipush X (v := 12) dL_law_605 (by decide) ?_
  refine g_icmp_geN X j 12 710 (by omega) (by omega) dL_law_607 (by decide) (fun c_1 => ?_) (fun c_1 => ?_)
  · skip
    refine g_0F ?_
    refine g_ls (ls' := [(0, .ref _), (1, .ref _), (2, .ref _), (3, .int _), (4, .int _), (12, .int _), (13, .int _)]) [0, 1, 2, 3, 4, 5, 6] rfl ?_
    exact g_widen (by omega) (by omega) (kk)
  · skip
    obtain ⟨pk0, pk1, pk2⟩ := pipes_ok (hPi j (by omega))
    refine g_joinW 651 ((C1 + 24 * j) + 9) ((S1 + 144 * j) + 54) (fun v9 : Int32 => v9 = hP ρ 1 j) (fun kj_2 => ?_) (fun v9 hv9 => ?_)
    · skip
      refine g_aload_n X dL_law_610 1 rfl rfl ?_
      refine g_iload X dL_law_611 7 rfl ?_
      refine g_iconst X (v := 2) dL_law_613 (by decide) ?_
      refine g_yc (F := 0) X hE (gYI_1 (c_X3_pipe l hl0 D cy ad ρ N T S d hI (nI j) (nI 2)) (pip_ok (i := j) (w := 2) (by omega) (by omega))) kl_L_115 ⟨rfl, rfl, Nat.le_of_ble_eq_true rfl, Nat.le_of_ble_eq_true rfl⟩ rfl rfl (Nat.le_of_ble_eq_true rfl) dL_law_614 ⟨by show _ ≤ 600172; omega, by show _ ≤ 7300668; omega⟩ ?_
      refine g_iconst X (v := 1) dL_law_617 (by decide) ?_
      refine g_icmp_ne X 626 dL_law_618 (by decide) (fun c_3 => ?_) (fun c_3 => ?_)
      · skip
        have cb := c_3
        refine g_bipush X (v := 60) dL_law_626 (by decide) ?_
        refine g_aload_n X dL_law_628 1 rfl rfl ?_
        refine g_iload X dL_law_629 7 rfl ?_
        refine g_iconst X (v := 1) dL_law_631 (by decide) ?_
        refine g_yc (F := 0) X hE (gYI_1 (c_X3_pipe l hl0 D cy ad ρ N T S d hI (nI j) (nI 1)) (pip_ok (i := j) (w := 1) (by omega) (by omega))) kl_L_115 ⟨rfl, rfl, Nat.le_of_ble_eq_true rfl, Nat.le_of_ble_eq_true rfl⟩ rfl rfl (Nat.le_of_ble_eq_true rfl) dL_law_632 ⟨by show _ ≤ 600172; omega, by show _ ≤ 7300668; omega⟩ ?_
        refine g_mabs X km_L_131 kt_mabs ki_math kc_mabs ⟨Nat.le_of_ble_eq_true rfl, Nat.le_of_ble_eq_true rfl, by show _ ≤ 600172; omega, by show _ ≤ 7300668; omega⟩ dL_law_635 ?_
        refine g_iconst X (v := 2) dL_law_638 (by decide) ?_
        refine g_aload_n X dL_law_639 1 rfl rfl ?_
        refine g_iload X dL_law_640 7 rfl ?_
        refine g_iconst X (v := 0) dL_law_642 (by decide) ?_
        refine g_yc (F := 0) X hE (gYI_1 (c_X3_pipe l hl0 D cy ad ρ N T S d hI (nI j) (nI 0)) (pip_ok (i := j) (w := 0) (by omega) (by omega))) kl_L_115 ⟨rfl, rfl, Nat.le_of_ble_eq_true rfl, Nat.le_of_ble_eq_true rfl⟩ rfl rfl (Nat.le_of_ble_eq_true rfl) dL_law_643 ⟨by show _ ≤ 600172; omega, by show _ ≤ 7300668; omega⟩ ?_
        refine g_imul X dL_law_646 ?_
        refine g_iadd X dL_law_647 ?_
        refine g_mmin X km_L_59 kt_mmin ki_math kc_mmin ⟨Nat.le_of_ble_eq_true rfl, Nat.le_of_ble_eq_true rfl, by show _ ≤ 600172; omega, by show _ ≤ 7300668; omega⟩ dL_law_648 ?_
        exact g_widen (by omega) (by omega) (kj_2 _ (hm_b0 cb))
      · skip
        have cb := c_3
        refine g_bipush X (v := 60) dL_law_621 (by decide) ?_
        refine g_goto X 651 dL_law_623 (by decide) ?_
        exact g_widen (by omega) (by omega) (kj_2 _ (hm_b1 cb))
    subst hv9
    refine g_istore X [(18, .int _), (0, .ref _), (1, .ref _), (2, .ref _), (3, .int _), (4, .int _), (12, .int _), (13, .int _), (17, .int _)] dL_law_651 (by decide) rfl ?_
    refine g_aload_n X dL_law_653 2 rfl rfl ?_
    refine g_iload X dL_law_654 8 rfl ?_
    refine g_iconst X (v := 0) dL_law_656 (by decide) ?_
    refine g_yc (F := 0) X hE (gYI_1 (c_X3_pipe l hl0 D cy ad ρ N T S d hI (nI j) (nI 0)) (pip_ok (i := j) (w := 0) (by omega) (by omega))) kl_L_115 ⟨rfl, rfl, Nat.le_of_ble_eq_true rfl, Nat.le_of_ble_eq_true rfl⟩ rfl rfl (Nat.le_of_ble_eq_true rfl) dL_law_657 ⟨by show _ ≤ 600172; omega, by show _ ≤ 7300668; omega⟩ ?_
    refine g_if_lt X 702 dL_law_660 (by decide) (fun c_4 => ?_) (fun c_4 => ?_)
    · exfalso; exact pk0 c_4
    · skip
      refine g_aload_n X dL_law_663 2 rfl rfl ?_
      refine g_iload X dL_law_664 8 rfl ?_
      refine g_iconst X (v := 0) dL_law_666 (by decide) ?_
      refine g_yc (F := 0) X hE (gYI_1 (c_X3_pipe l hl0 D cy ad ρ N T S d hI (nI j) (nI 0)) (pip_ok (i := j) (w := 0) (by omega) (by omega))) kl_L_115 ⟨rfl, rfl, Nat.le_of_ble_eq_true rfl, Nat.le_of_ble_eq_true rfl⟩ rfl rfl (Nat.le_of_ble_eq_true rfl) dL_law_667 ⟨by show _ ≤ 600172; omega, by show _ ≤ 7300668; omega⟩ ?_
      refine g_bipush X (v := 30) dL_law_670 (by decide) ?_
      refine g_icmp_gt X 702 dL_law_672 (by decide) (fun c_5 => ?_) (fun c_5 => ?_)
      · exfalso; exact pk1 c_5
      · skip
        refine g_aload_n X dL_law_675 2 rfl rfl ?_
        refine g_iload X dL_law_676 8 rfl ?_
        refine g_iconst X (v := 1) dL_law_678 (by decide) ?_
        refine g_yc (F := 0) X hE (gYI_1 (c_X3_pipe l hl0 D cy ad ρ N T S d hI (nI j) (nI 1)) (pip_ok (i := j) (w := 1) (by omega) (by omega))) kl_L_115 ⟨rfl, rfl, Nat.le_of_ble_eq_true rfl, Nat.le_of_ble_eq_true rfl⟩ rfl rfl (Nat.le_of_ble_eq_true rfl) dL_law_679 ⟨by show _ ≤ 600172; omega, by show _ ≤ 7300668; omega⟩ ?_
        refine g_mabs X km_L_131 kt_mabs ki_math kc_mabs ⟨Nat.le_of_ble_eq_true rfl, Nat.le_of_ble_eq_true rfl, by show _ ≤ 600172; omega, by show _ ≤ 7300668; omega⟩ dL_law_682 ?_
        refine g_bipush X (v := 60) dL_law_685 (by decide) ?_
        refine g_icmp_gt X 702 dL_law_687 (by decide) (fun c_6 => ?_) (fun c_6 => ?_)
        · exfalso; exact pk2 c_6
        · skip
          refine g_aload_n X dL_law_690 2 rfl rfl ?_
          refine g_iload X dL_law_691 8 rfl ?_
          refine g_iconst X (v := 3) dL_law_693 (by decide) ?_
          refine g_yc (F := 0) X hE (gYI_1 (c_X3_pipe l hl0 D cy ad ρ N T S d hI (nI j) (nI 3)) (pip_ok (i := j) (w := 3) (by omega) (by omega))) kl_L_115 ⟨rfl, rfl, Nat.le_of_ble_eq_true rfl, Nat.le_of_ble_eq_true rfl⟩ rfl rfl (Nat.le_of_ble_eq_true rfl) dL_law_694 ⟨by show _ ≤ 600172; omega, by show _ ≤ 7300668; omega⟩ ?_
          refine g_iload X dL_law_697 0 rfl ?_
          refine g_icmp_eq X 704 dL_law_699 (by decide) (fun c_7 => ?_) (fun c_7 => ?_)
          · skip
            refine g_iincN X j 17 [(17, .int _), (18, .int _), (0, .ref _), (1, .ref _), (2, .ref _), (3, .int _), (4, .int _), (12, .int _), (13, .int _)] 8 dL_law_704 rfl (by decide) rfl ?_
            refine g_goto X 603 dL_law_707 (by decide) ?_
            refine g_ls (ls' := [(0, .ref _), (1, .ref _), (2, .ref _), (3, .int _), (4, .int _), (12, .int _), (13, .int _), (17, .int _)]) [2, 3, 4, 5, 6, 7, 8, 0] rfl ?_
            refine g_widen (k9 := (C1 + 24 * (j + 1))) (n9 := (S1 + 144 * (j + 1))) (by omega) (by omega) ?_
            exact g_eqv (ihj (by omega) trivial) (rfl) (rfl) rfl rfl
          · exfalso; exact c_7 rfl

end LGD
