/-! The law: what it asks of the tunes -/
section JZ
variable {p : Program} {l : Launch} {e : Env} {R : Room} {s : State} {m : MethodId} {args : Array Value} {below : List Frame} {meth : Method} {c : Code} {Q : State → Prop}
variable {cc : ByteArray} {nL : Nat} {Ts : List Cond} {own : String} {D : va_G} {cy : Nat → ClassId} {A : Nat → Prop}
variable {n n' : Nat} {ad ad' : Nat → Nat} {cz cz' : Nat → (Nat → Int32) → va_E} {ρ ρ' : gSt} {cells slots pc : Nat} {ls ls' : List (Nat × Value)} {st st0 rest : List Value}
variable {y : MethodName} {rm : Room} {bytes : ByteArray} {maxL nA index mc ms : Nat} {ret : Option FieldType} {C : String} {Tf : u_T} {Nf ci : Nat} {As : List Value}
theorem g_join0W (tgt c' s' : Nat) (l2 : List (Nat × Value)) (k2 : GW p l e R s m args below meth c Q nL D A n ad cz ρ c' s' tgt l2 st → GW p l e R s m args below meth c Q nL D A n ad cz ρ cells slots pc ls st) (kk : GW p l e R s m args below meth c Q nL D A n ad cz ρ c' s' tgt l2 st) : GW p l e R s m args below meth c Q nL D A n ad cz ρ cells slots pc ls st := k2 kk
end JZ
theorem bes_lt {ρ : gSt} {z t T : Nat} (ht : t < T) (h : (bsP ρ z T).2 < 0) (hT : T ≤ 6) : ¬ 0 < pyN ρ z t := by
  rcases bes_fact (ρ := ρ) (z := z) ht with ⟨_, h2⟩ | ⟨q, hq, e, _⟩
  · exact h2
  · rw [e] at h
    exact absurd h (inl_of (t := q) (T := 6) (by omega) (by omega)).1
theorem bes_ge {ρ : gSt} {z T : Nat} (h : ¬ (bsP ρ z T).2 < 0) : ∃ q, q < T ∧ (bsP ρ z T).2 = nI q ∧ ∀ t, t < T → ¬ pyN ρ z q < pyN ρ z t := by
  rcases bs_key (ρ := ρ) (z := z) T with ⟨h1, _, _⟩ | ⟨q, hq, h1, _, h3⟩
  · exact absurd (by rw [h1]; decide) h
  · exact ⟨q, hq, h1, fun t ht => Int32.not_lt.mpr (h3 t ht)⟩
section LGE
variable {p : Program} {l : Launch} {e : Env} {s : State} {m : MethodId} {args : Array Value} {below : List Frame} {meth : Method} {c : Code} {Q : State → Prop}
variable {Ts : List Cond} {D : va_G} {cy : Nat → ClassId} {A : Nat → Prop}
variable {ad : Nat → Nat} {ρ : gSt} {C1 S1 : Nat} {S T N d i b : Nat} {Ln : Nat → Nat} {x : Int32}
variable {t : Nat} {sn : Int32}
set_option maxHeartbeats 4000000 in
set_option maxRecDepth 100000 in
theorem law_Ez (X : gX p m c cL_law 23 s args Ts RL D cy A) (hl0 : l.stackTraces = false) (hE : gEnv s A) (hZ : zAO s) (hX : Inx ρ N T S d) (hLn : LnOK ρ T Ln) (hc1 : C1 + 200 ≤ 600172) (hs1 : S1 + 1200 ≤ 7300668) (ht : t < T) (hsn : sn = sndC ρ 1 t (-1)) (kk : GW p l e { frames := 12, cells := 600172, slots := 7300668, locals := 442 } s m args below meth c Q 23 D A (48 + (8 + S + T)) ad (cW ad cy S T Ln) (wR S ρ ρ) (C1 + 200) (S1 + 1200) 969 [(0, .ref b), (1, .ref (ad 0)), (2, .ref (ad 48)), (3, .int (nI i)), (4, .int x), (12, .int (nI T)), (13, .int (nI S)), (17, .int (nI t))] []) : GW p l e { frames := 12, cells := 600172, slots := 7300668, locals := 442 } s m args below meth c Q 23 D A (48 + (8 + S + T)) ad (cW ad cy S T Ln) (wR S ρ ρ) C1 S1 875 [(0, .ref b), (1, .ref (ad 0)), (2, .ref (ad 48)), (3, .int (nI i)), (4, .int x), (12, .int (nI T)), (13, .int (nI S)), (17, .int (nI t)), (20, .int sn)] [] := by
  obtain ⟨hT, hT6, hS, hS8, hd, hdN, hN, hTu0, hSt, hPi, hZ9, hHd⟩ := id hX.1
  have hI := hX.1
  have hTu : ∀ t, t < T → tunI ρ t := fun t ht => hTu0 t (by omega)
  have hwd : wdF ρ = nI (d % 7) := by unfold wdF; rw [hd, nI_clamp (by omega)]
  refine g_F0 (fa := fun _ => 0) (fz := fun _ _ => .inr (0, [])) (φ := z0) ?_
  refine g_iconst X (v := 0) dL_law_875 (by decide) ?_
  refine g_istore X [(22, .int _), (0, .ref _), (1, .ref _), (2, .ref _), (3, .int _), (4, .int _), (12, .int _), (13, .int _), (17, .int _), (20, .int _)] dL_law_876 (by decide) rfl ?_
  refine g_widen (k9 := C1 + 24 * 0) (n9 := S1 + 144 * 0) (by omega) (by omega) ?_
  refine g_ls (ls' := [(0, .ref _), (1, .ref _), (2, .ref _), (3, .int _), (4, .int _), (12, .int _), (13, .int _), (17, .int _), (20, .int _), (22, .int _)]) [1, 2, 3, 4, 5, 6, 7, 8, 9, 0] rfl ?_
  refine g_loop (fun _ => True) (fun _ => jF 0 z0 (wR S ρ ρ)) (fun z => [(0, .ref b), (1, .ref (ad 0)), (2, .ref (ad 48)), (3, .int (nI i)), (4, .int x), (12, .int (nI T)), (13, .int (nI S)), (17, .int (nI t)), (20, .int sn), (22, .int (nI z))]) (fun z => C1 + 24 * z) (fun z => S1 + 144 * z) S 0 trivial (by omega) rfl rfl rfl rfl (fun z h0z hz hIz ihz => ?_)
  refine g_iload X dL_law_878 9 rfl ?_
  refine g_iload X dL_law_880 6 rfl ?_
  refine g_icmp_geN X z S 969 (by omega) (by omega) dL_law_882 (by decide) (fun c_1 => ?_) (fun c_1 => ?_)
  · skip
    refine g_0F ?_
    refine g_ls (ls' := [(0, .ref _), (1, .ref _), (2, .ref _), (3, .int _), (4, .int _), (12, .int _), (13, .int _), (17, .int _)]) [0, 1, 2, 3, 4, 5, 6, 7] rfl ?_
    exact g_widen (by omega) (by omega) (kk)
  · skip
    refine g_aload_n X dL_law_885 1 rfl rfl ?_
    refine g_iload X dL_law_886 9 rfl ?_
    refine g_iload X dL_law_888 7 rfl ?_
    refine g_yc (F := 0) X hE (gYI_1 (c_X3_pays l hl0 D cy ad ρ N T S d hI (nI z) (nI t)) (pay_ok (z := z) (t := t) hT hT6 hS hS8 (by omega) (by omega))) kl_L_146 ⟨rfl, rfl, Nat.le_of_ble_eq_true rfl, Nat.le_of_ble_eq_true rfl⟩ rfl rfl (Nat.le_of_ble_eq_true rfl) dL_law_890 ⟨by show _ ≤ 600172; omega, by show _ ≤ 7300668; omega⟩ ?_
    refine g_aload_n X dL_law_893 1 rfl rfl ?_
    refine g_iload X dL_law_894 9 rfl ?_
    refine g_iconst X (v := 0) dL_law_896 (by decide) ?_
    refine g_yc (F := 0) X hE (gYI_1 (c_X3_told l hl0 D cy ad ρ N T S d hI (nI z) (nI 0)) (tol_ok (z := z) (w := 0) hS hS8 (by omega) (by omega))) kl_L_121 ⟨rfl, rfl, Nat.le_of_ble_eq_true rfl, Nat.le_of_ble_eq_true rfl⟩ rfl rfl (Nat.le_of_ble_eq_true rfl) dL_law_897 ⟨by show _ ≤ 600172; omega, by show _ ≤ 7300668; omega⟩ ?_
    refine g_iload X dL_law_900 8 rfl ?_
    refine g_imul X dL_law_902 ?_
    refine g_bipush X (v := 60) dL_law_903 (by decide) ?_
    refine g_idiv X dL_law_905 (by decide) ?_
    refine g_icmp_gt X 961 dL_law_906 (by decide) (fun c_2 => ?_) (fun c_2 => ?_)
    · exfalso; subst hsn; exact pay_le hI (by omega) (by omega) c_2
    · skip
      refine g_aload_n X dL_law_909 1 rfl rfl ?_
      refine g_iload X dL_law_910 9 rfl ?_
      refine g_yc (F := 0) X hE (gYI_1 (c_X3_best l hl0 D cy ad ρ N T S d hI (nI z)) (bes_ok (z := z) hT hT6 hS hS8 (by omega))) kl_L_149 ⟨rfl, rfl, Nat.le_of_ble_eq_true rfl, Nat.le_of_ble_eq_true rfl⟩ rfl rfl (Nat.le_of_ble_eq_true rfl) dL_law_912 ⟨by show _ ≤ 600172; omega, by show _ ≤ 7300668; omega⟩ ?_
      refine g_if_lt X 941 dL_law_915 (by decide) (fun c_3 => ?_) (fun c_3 => ?_)
      · skip
        have cb := c_3
        have nb := bes_lt ht cb hT6
        refine g_aload_n X dL_law_941 1 rfl rfl ?_
        refine g_iload X dL_law_942 9 rfl ?_
        refine g_yc (F := 0) X hE (gYI_1 (c_X3_best l hl0 D cy ad ρ N T S d hI (nI z)) (bes_ok (z := z) hT hT6 hS hS8 (by omega))) kl_L_149 ⟨rfl, rfl, Nat.le_of_ble_eq_true rfl, Nat.le_of_ble_eq_true rfl⟩ rfl rfl (Nat.le_of_ble_eq_true rfl) dL_law_944 ⟨by show _ ≤ 600172; omega, by show _ ≤ 7300668; omega⟩ ?_
        refine g_if_ge X 963 dL_law_947 (by decide) (fun c_4 => ?_) (fun c_4 => ?_)
        · exfalso; exact absurd cb (Int32.not_lt.mpr c_4)
        · skip
          refine g_aload_n X dL_law_950 1 rfl rfl ?_
          refine g_iload X dL_law_951 9 rfl ?_
          refine g_iload X dL_law_953 7 rfl ?_
          refine g_yc (F := 0) X hE (gYI_1 (c_X3_pays l hl0 D cy ad ρ N T S d hI (nI z) (nI t)) (pay_ok (z := z) (t := t) hT hT6 hS hS8 (by omega) (by omega))) kl_L_146 ⟨rfl, rfl, Nat.le_of_ble_eq_true rfl, Nat.le_of_ble_eq_true rfl⟩ rfl rfl (Nat.le_of_ble_eq_true rfl) dL_law_955 ⟨by show _ ≤ 600172; omega, by show _ ≤ 7300668; omega⟩ ?_
          refine g_if_le X 963 dL_law_958 (by decide) (fun c_5 => ?_) (fun c_5 => ?_)
          · skip
            refine g_iincN X z 22 [(22, .int _), (0, .ref _), (1, .ref _), (2, .ref _), (3, .int _), (4, .int _), (12, .int _), (13, .int _), (17, .int _), (20, .int _)] 9 dL_law_963 rfl (by decide) rfl ?_
            refine g_goto X 878 dL_law_966 (by decide) ?_
            refine g_ls (ls' := [(0, .ref _), (1, .ref _), (2, .ref _), (3, .int _), (4, .int _), (12, .int _), (13, .int _), (17, .int _), (20, .int _), (22, .int _)]) [1, 2, 3, 4, 5, 6, 7, 8, 9, 0] rfl ?_
            refine g_widen (k9 := (C1 + 24 * (z + 1))) (n9 := (S1 + 144 * (z + 1))) (by omega) (by omega) ?_
            exact g_eqv (ihz (by omega) trivial) (rfl) (rfl) rfl rfl
          · exfalso; exact nb (Int32.not_le.mp c_5)
      · skip
        have cb := c_3
        obtain ⟨q, hq, eb, hb⟩ := bes_ge cb
        refine g_aload_n X dL_law_918 1 rfl rfl ?_
        refine g_iload X dL_law_919 9 rfl ?_
        refine g_aload_n X dL_law_921 1 rfl rfl ?_
        refine g_iload X dL_law_922 9 rfl ?_
        refine g_yc (F := 0) X hE (gYI_1 (c_X3_best l hl0 D cy ad ρ N T S d hI (nI z)) (bes_ok (z := z) hT hT6 hS hS8 (by omega))) kl_L_149 ⟨rfl, rfl, Nat.le_of_ble_eq_true rfl, Nat.le_of_ble_eq_true rfl⟩ rfl rfl (Nat.le_of_ble_eq_true rfl) dL_law_924 ⟨by show _ ≤ 600172; omega, by show _ ≤ 7300668; omega⟩ ?_
        rw [eb]
        refine g_yc (F := 0) X hE (gYI_1 (c_X3_pays l hl0 D cy ad ρ N T S d hI (nI z) (nI q)) (pay_ok (z := z) (t := q) hT hT6 hS hS8 (by omega) (by omega))) kl_L_146 ⟨rfl, rfl, Nat.le_of_ble_eq_true rfl, Nat.le_of_ble_eq_true rfl⟩ rfl rfl (Nat.le_of_ble_eq_true rfl) dL_law_927 ⟨by show _ ≤ 600172; omega, by show _ ≤ 7300668; omega⟩ ?_
        refine g_aload_n X dL_law_930 1 rfl rfl ?_
        refine g_iload X dL_law_931 9 rfl ?_
        refine g_iload X dL_law_933 7 rfl ?_
        refine g_yc (F := 0) X hE (gYI_1 (c_X3_pays l hl0 D cy ad ρ N T S d hI (nI z) (nI t)) (pay_ok (z := z) (t := t) hT hT6 hS hS8 (by omega) (by omega))) kl_L_146 ⟨rfl, rfl, Nat.le_of_ble_eq_true rfl, Nat.le_of_ble_eq_true rfl⟩ rfl rfl (Nat.le_of_ble_eq_true rfl) dL_law_935 ⟨by show _ ≤ 600172; omega, by show _ ≤ 7300668; omega⟩ ?_
        refine g_icmp_lt X 961 dL_law_938 (by decide) (fun c_6 => ?_) (fun c_6 => ?_)
        · exfalso; exact hb t ht c_6
        · skip
          refine g_aload_n X dL_law_941 1 rfl rfl ?_
          refine g_iload X dL_law_942 9 rfl ?_
          refine g_yc (F := 0) X hE (gYI_1 (c_X3_best l hl0 D cy ad ρ N T S d hI (nI z)) (bes_ok (z := z) hT hT6 hS hS8 (by omega))) kl_L_149 ⟨rfl, rfl, Nat.le_of_ble_eq_true rfl, Nat.le_of_ble_eq_true rfl⟩ rfl rfl (Nat.le_of_ble_eq_true rfl) dL_law_944 ⟨by show _ ≤ 600172; omega, by show _ ≤ 7300668; omega⟩ ?_
          refine g_if_ge X 963 dL_law_947 (by decide) (fun c_7 => ?_) (fun c_7 => ?_)
          · skip
            refine g_iincN X z 22 [(22, .int _), (0, .ref _), (1, .ref _), (2, .ref _), (3, .int _), (4, .int _), (12, .int _), (13, .int _), (17, .int _), (20, .int _)] 9 dL_law_963 rfl (by decide) rfl ?_
            refine g_goto X 878 dL_law_966 (by decide) ?_
            refine g_ls (ls' := [(0, .ref _), (1, .ref _), (2, .ref _), (3, .int _), (4, .int _), (12, .int _), (13, .int _), (17, .int _), (20, .int _), (22, .int _)]) [1, 2, 3, 4, 5, 6, 7, 8, 9, 0] rfl ?_
            refine g_widen (k9 := (C1 + 24 * (z + 1))) (n9 := (S1 + 144 * (z + 1))) (by omega) (by omega) ?_
            exact g_eqv (ihz (by omega) trivial) (rfl) (rfl) rfl rfl
          · exfalso; exact cb (Int32.not_le.mp c_7)

set_option maxHeartbeats 4000000 in
set_option maxRecDepth 100000 in
theorem law_E {ρ0 : gSt} (X : gX p m c cL_law 23 s args Ts RL D cy A) (hl0 : l.stackTraces = false) (hE : gEnv s A) (hZ : zAO s) (hLn0 : LnOK ρ0 T Ln) (hT96 : T ≤ 6) (hc1 : C1 + 2400 ≤ 600172) (hs1 : S1 + 14400 ≤ 7300668) (kk : ∀ ρ, Apart ρ0 ρ → Inx ρ N T S d → GW p l e { frames := 12, cells := 600172, slots := 7300668, locals := 442 } s m args below meth c Q 23 D A (48 + (8 + S + T)) ad (cW ad cy S T Ln) (wR S ρ ρ) (C1 + 2400) (S1 + 14400) 975 [(0, .ref b), (1, .ref (ad 0)), (2, .ref (ad 48)), (3, .int (nI i)), (4, .int x), (12, .int (nI T)), (13, .int (nI S))] []) : ∀ (f t : Nat), t + f = T → ∀ ρ : gSt, Apart ρ0 ρ → Inx ρ N T S d → GW p l e { frames := 12, cells := 600172, slots := 7300668, locals := 442 } s m args below meth c Q 23 D A (48 + (8 + S + T)) ad (cW ad cy S T Ln) (wR S ρ ρ) (C1 + 400 * t) (S1 + 2400 * t) 713 [(0, .ref b), (1, .ref (ad 0)), (2, .ref (ad 48)), (3, .int (nI i)), (4, .int x), (12, .int (nI T)), (13, .int (nI S)), (17, .int (nI t))] [] := by
  intro f
  induction f with
  | zero =>
    intro t hi ρ hAp hX
    obtain rfl : t = T := by omega
    refine g_F0 (fa := fun _ => 0) (fz := fun _ _ => .inr (0, [])) (φ := z0) ?_
    refine g_iload X dL_law_713 7 rfl ?_
    refine g_iload X dL_law_715 5 rfl ?_
    refine g_icmp_geN X t t 975 (by omega) (by omega) dL_law_717 (by decide) (fun h => ?_) (fun h => ?_)
    · refine g_0F ?_
      refine g_ls (ls' := [(0, .ref _), (1, .ref _), (2, .ref _), (3, .int _), (4, .int _), (12, .int _), (13, .int _)]) [0, 1, 2, 3, 4, 5, 6] rfl ?_
      exact g_widen (by omega) (by omega) (kk ρ hAp hX)
    · omega
  | succ f ih9 =>
    intro t hi ρ hAp hX
    have ht : t < T := by omega
    have hLn := hAp.ln hLn0
    have hL16 := (hLn t ht).2
    obtain ⟨hT, hT6, hS, hS8, hd, hdN, hN, hTu0, hSt, hPi, hZ9, hHd⟩ := id hX.1
    have hI := hX.1
    have hTu : ∀ t, t < T → tunI ρ t := fun t ht => hTu0 t (by omega)
    have hwd : wdF ρ = nI (d % 7) := by unfold wdF; rw [hd, nI_clamp (by omega)]
    obtain ⟨hLq, hLc⟩ := tunL (hTu t ht) (hLn t ht)
    refine g_F0 (fa := fun _ => 0) (fz := fun _ _ => .inr (0, [])) (φ := z0) ?_
    skip
    refine g_iload X dL_law_713 7 rfl ?_
    refine g_iload X dL_law_715 5 rfl ?_
    refine g_icmp_geN X t T 975 (by omega) (by omega) dL_law_717 (by decide) (fun c_1 => ?_) (fun c_1 => ?_)
    · exfalso; omega
    · skip
      refine g_aload_n X dL_law_720 2 rfl rfl ?_
      refine g_getr X (0 + 48 + 0) (by show 0 + 48 + 0 < 0 + (48 + (8 + S + T)); omega) 7 (by decide) ku_X4 kv_X4 kf_L_9 rfl (gSub_fr (off := 0 + 48) sub_FS lS_tunes (by omega) (by omega)) dL_law_721 ?_
      refine g_iload X dL_law_724 7 rfl ?_
      refine g_aaldA X (0 + 48 + 5) t (by show 0 + 48 + 5 < 0 + (48 + (8 + S + T)); omega) (gSub_ar (off := 0 + 48) sub_FS lS_ts (by omega) (fun i hi => by omega)) rfl (by omega) (by omega) dL_law_726 ?_
      rw [jF_48]
      refine g_alenS (F := 0) X (8 + S + t) lS_tu (by omega) dL_law_727 ?_
      refine g_istore X [(18, .int _), (0, .ref _), (1, .ref _), (2, .ref _), (3, .int _), (4, .int _), (12, .int _), (13, .int _), (17, .int _)] dL_law_728 (by decide) rfl ?_
      refine g_iconst X (v := 0) dL_law_730 (by decide) ?_
      refine g_istore X [(19, .int _), (18, .int _), (0, .ref _), (1, .ref _), (2, .ref _), (3, .int _), (4, .int _), (12, .int _), (13, .int _), (17, .int _)] dL_law_731 (by decide) rfl ?_
      refine g_iconst X (v := 0) dL_law_733 (by decide) ?_
      refine g_istore X [(20, .int _), (19, .int _), (18, .int _), (0, .ref _), (1, .ref _), (2, .ref _), (3, .int _), (4, .int _), (12, .int _), (13, .int _), (17, .int _)] dL_law_734 (by decide) rfl ?_
      refine g_widen (k9 := (C1 + 400 * t) + 6 * 0) (n9 := (S1 + 2400 * t) + 36 * 0) (by omega) (by omega) ?_
      refine g_ls (ls' := [(0, .ref _), (1, .ref _), (2, .ref _), (3, .int _), (4, .int _), (12, .int _), (13, .int _), (17, .int _), (18, .int _), (19, .int _), (20, .int _)]) [3, 4, 5, 6, 7, 8, 9, 10, 2, 1, 0] rfl ?_
      refine g_loop (fun _ => True) (fun _ => jF 0 z0 (wR S ρ ρ)) (fun k => [(0, .ref b), (1, .ref (ad 0)), (2, .ref (ad 48)), (3, .int (nI i)), (4, .int x), (12, .int (nI T)), (13, .int (nI S)), (17, .int (nI t)), (18, .int (nI (Ln t))), (19, .int (sumI (sdS ρ t) k)), (20, .int (nI k))]) (fun k => (C1 + 400 * t) + 6 * k) (fun k => (S1 + 2400 * t) + 36 * k) (Ln t) 0 trivial (by omega) rfl rfl rfl rfl (fun k h0k hk hIk ihk => ?_)
      refine g_iload X dL_law_736 10 rfl ?_
      refine g_iload X dL_law_738 8 rfl ?_
      refine g_icmp_geN X k (Ln t) 767 (by omega) (by omega) dL_law_740 (by decide) (fun c_2 => ?_) (fun c_2 => ?_)
      · skip
        have hkL : k = Ln t := by omega
        refine g_aload_n X dL_law_767 1 rfl rfl ?_
        refine g_iload X dL_law_768 7 rfl ?_
        refine g_yc (F := 0) X hE (gYI_1 (c_X3_sound l hl0 D cy ad ρ N T S d hI (nI t)) (sou_ok (t := t) hT hT6 (by omega))) kl_L_137 ⟨rfl, rfl, Nat.le_of_ble_eq_true rfl, Nat.le_of_ble_eq_true rfl⟩ rfl rfl (Nat.le_of_ble_eq_true rfl) dL_law_770 ⟨by show _ ≤ 600172; omega, by show _ ≤ 7300668; omega⟩ ?_
        refine g_istore X [(20, .int _), (0, .ref _), (1, .ref _), (2, .ref _), (3, .int _), (4, .int _), (12, .int _), (13, .int _), (17, .int _), (18, .int _), (19, .int _)] dL_law_773 (by decide) rfl ?_
        refine g_aload_n X dL_law_775 2 rfl rfl ?_
        refine g_iload X dL_law_776 8 rfl ?_
        refine g_yc (F := 0) X hE (gYI_1 (c_X3_worst l hl0 D cy ad ρ N T S d hI (nI t)) (wor_ok (t := t) hT hT6 (by omega))) kl_L_140 ⟨rfl, rfl, Nat.le_of_ble_eq_true rfl, Nat.le_of_ble_eq_true rfl⟩ rfl rfl (Nat.le_of_ble_eq_true rfl) dL_law_778 ⟨by show _ ≤ 600172; omega, by show _ ≤ 7300668; omega⟩ ?_
        refine g_istore X [(21, .int _), (20, .int _), (0, .ref _), (1, .ref _), (2, .ref _), (3, .int _), (4, .int _), (12, .int _), (13, .int _), (17, .int _), (18, .int _), (19, .int _)] dL_law_781 (by decide) rfl ?_
        refine g_iload X dL_law_783 1 rfl ?_
        refine g_joinW 802 (((((C1 + 400 * t) + 6 * k) + 3) + 3) + 0) (((((S1 + 2400 * t) + 36 * k) + 18) + 18) + 0) (fun v9 : Int32 => v9 = sndC ρ 1 t (-1)) (fun kj_3 => ?_) (fun v9 hv9 => ?_)
        · skip
          refine g_iload X dL_law_785 10 rfl ?_
          refine g_if_ne X 794 dL_law_787 (by decide) (fun c_4 => ?_) (fun c_4 => ?_)
          · skip
            have hL0 := c_4
            refine g_bipush X (v := 60) dL_law_794 (by decide) ?_
            refine g_iload X dL_law_796 11 rfl ?_
            refine g_iload X dL_law_798 10 rfl ?_
            refine g_idiv X dL_law_800 hL0 ?_
            refine g_isub X dL_law_801 ?_
            exact g_widen (by omega) (by omega) (kj_3 _ (by rw [hkL, snd_sim (hTu t ht) (hLn t ht), if_neg hL0]))
          · skip
            have hL0 := c_4
            refine g_iconst X (v := 0) dL_law_790 (by decide) ?_
            refine g_goto X 802 dL_law_791 (by decide) ?_
            exact g_widen (by omega) (by omega) (kj_3 _ (by rw [snd_sim (hTu t ht) (hLn t ht), if_pos hL0]))
        subst hv9
        refine g_icmp_ne X 873 dL_law_802 (by decide) (fun c_5 => ?_) (fun c_5 => ?_)
        · exfalso; exact c_5 rfl
        · skip
          refine g_join0W 833 ((((((C1 + 400 * t) + 6 * k) + 3) + 3) + 0) + 3) ((((((S1 + 2400 * t) + 36 * k) + 18) + 18) + 0) + 18) [(0, .ref b), (1, .ref (ad 0)), (2, .ref (ad 48)), (3, .int (nI i)), (4, .int x), (12, .int (nI T)), (13, .int (nI S)), (17, .int (nI t)), (18, .int (nI (Ln t))), (19, .int (sumI (sdS ρ t) k)), (20, .int (sndC ρ 1 t (-1)))] (fun kj_6 => ?_) ?_
          · skip
            refine g_iload X dL_law_805 0 rfl ?_
            refine g_if_lt X 833 dL_law_807 (by decide) (fun c_7 => ?_) (fun c_7 => ?_)
            · skip
              refine g_ls (ls' := [(0, .ref _), (1, .ref _), (2, .ref _), (3, .int _), (4, .int _), (12, .int _), (13, .int _), (17, .int _), (18, .int _), (19, .int _), (20, .int _)]) [2, 3, 4, 5, 6, 7, 8, 9, 10, 11, 1] rfl ?_
              exact g_widen (by omega) (by omega) kj_6
            · skip
              obtain ⟨q, hq, ew, hp0, hl9, hs9⟩ := (wor_fact hX hLn ht).resolve_left c_7
              rw [ew]
              refine g_aload_n X dL_law_810 3 rfl rfl ?_
              refine g_iload X dL_law_811 0 rfl ?_
              refine g_iconst X (v := 3) dL_law_813 (by decide) ?_
              refine g_yc (F := 0) X hE (gYI_1 (c_X3_pipe l hl0 D cy ad ρ N T S d hI (nI q) (nI 3)) (pip_ok (i := q) (w := 3) (by omega) (by omega))) kl_L_115 ⟨rfl, rfl, Nat.le_of_ble_eq_true rfl, Nat.le_of_ble_eq_true rfl⟩ rfl rfl (Nat.le_of_ble_eq_true rfl) dL_law_814 ⟨by show _ ≤ 600172; omega, by show _ ≤ 7300668; omega⟩ ?_
              refine g_if_eq X 873 dL_law_817 (by decide) (fun c_8 => ?_) (fun c_8 => ?_)
              · exfalso; exact hp0 c_8
              · skip
                refine g_iload X dL_law_820 10 rfl ?_
                refine g_if_eq X 873 dL_law_822 (by decide) (fun c_9 => ?_) (fun c_9 => ?_)
                · exfalso; exact hl9 c_9
                · skip
                  refine g_iload X dL_law_825 11 rfl ?_
                  refine g_iload X dL_law_827 10 rfl ?_
                  refine g_idiv X dL_law_829 hl9 ?_
                  refine g_if_eq X 873 dL_law_830 (by decide) (fun c_10 => ?_) (fun c_10 => ?_)
                  · exfalso; rw [hkL] at c_10; exact hs9 c_10
                  · skip
                    refine g_ls (ls' := [(0, .ref _), (1, .ref _), (2, .ref _), (3, .int _), (4, .int _), (12, .int _), (13, .int _), (17, .int _), (18, .int _), (19, .int _), (20, .int _)]) [2, 3, 4, 5, 6, 7, 8, 9, 10, 11, 1] rfl ?_
                    exact g_widen (by omega) (by omega) kj_6
          refine g_aload_n X dL_law_833 1 rfl rfl ?_
          refine g_iload X dL_law_834 7 rfl ?_
          refine g_yc (F := 0) X hE (gYI_1 (c_X3_lasts l hl0 D cy ad ρ N T S d hI (nI t)) (las_ok (t := t) hT hT6 (by omega))) kl_L_143 ⟨rfl, rfl, Nat.le_of_ble_eq_true rfl, Nat.le_of_ble_eq_true rfl⟩ rfl rfl (Nat.le_of_ble_eq_true rfl) dL_law_836 ⟨by show _ ≤ 600172; omega, by show _ ≤ 7300668; omega⟩ ?_
          have la1 := (la_pos (ρ := ρ) (t := t)).1
          obtain ⟨ρ1, e1⟩ : ∃ r, r = trR ρ t (laK ρ t 99 0) := ⟨_, rfl⟩
          rw [← e1]
          have hA1 : Apart ρ ρ1 := by rw [e1]; exact apart_tr
          rw [show wR S ρ1 ρ = wR S ρ1 ρ1 by unfold wR; rw [hA1.sim]]
          have hI1 := hA1.inv hI
          refine g_bipush X (v := 99) dL_law_839 (by decide) ?_
          refine g_icmp_gtN X (laK ρ t 99 0) 99 873 (by omega) (by omega) dL_law_841 (by decide) (fun c_11 => ?_) (fun c_11 => ?_)
          · exfalso; omega
          · skip
            refine g_aload_n X dL_law_844 1 rfl rfl ?_
            refine g_iload X dL_law_845 7 rfl ?_
            refine g_yc (F := 0) X hE (gYI_1 (c_X3_lasts l hl0 D cy ad ρ1 N T S d hI1 (nI t)) (las_ok (t := t) hI1.1 hT6 (by omega))) kl_L_143 ⟨rfl, rfl, Nat.le_of_ble_eq_true rfl, Nat.le_of_ble_eq_true rfl⟩ rfl rfl (Nat.le_of_ble_eq_true rfl) dL_law_847 ⟨by show _ ≤ 600172; omega, by show _ ≤ 7300668; omega⟩ ?_
            have la2 := (la_pos (ρ := ρ1) (t := t)).1
            have lp : laK ρ1 t 99 0 = 0 ↔ sndC ρ 1 t (-1) < 30 := by rw [← hA1.snd]; exact la_pos.2
            obtain ⟨ρ2, e2⟩ : ∃ r, r = trR ρ1 t (laK ρ1 t 99 0) := ⟨_, rfl⟩
            rw [← e2]
            have hB2 : Apart ρ1 ρ2 := by rw [e2]; exact apart_tr
            have hA2 := hA1.tr hB2
            rw [show wR S ρ2 ρ1 = wR S ρ2 ρ2 by unfold wR; rw [hB2.sim]]
            refine g_if_le X 857 dL_law_850 (by decide) (fun c_12 => ?_) (fun c_12 => ?_)
            · skip
              have k0 := nI_le0 (by omega) c_12
              refine g_iconst X (v := 0) dL_law_857 (by decide) ?_
              refine g_iload X dL_law_858 10 rfl ?_
              refine g_bipush X (v := 30) dL_law_860 (by decide) ?_
              refine g_icmp_lt X 869 dL_law_862 (by decide) (fun c_13 => ?_) (fun c_13 => ?_)
              · skip
                refine g_iconst X (v := 0) dL_law_869 (by decide) ?_
                refine g_icmp_eqN X 0 0 875 (by omega) (by omega) dL_law_870 (by decide) (fun c_14 => ?_) (fun c_14 => ?_)
                · skip
                  refine g_0F ?_
                  refine g_ls (ls' := [(0, .ref _), (1, .ref _), (2, .ref _), (3, .int _), (4, .int _), (12, .int _), (13, .int _), (17, .int _), (20, .int _)]) [0, 1, 2, 3, 4, 5, 6, 7, 10] rfl ?_
                  refine law_Ez (C1 := ((((((((C1 + 400 * t) + 6 * k) + 3) + 3) + 0) + 3) + 3) + 3)) (S1 := ((((((((S1 + 2400 * t) + 36 * k) + 18) + 18) + 0) + 18) + 18) + 18)) X hl0 hE hZ (hA2.inx hX) (hA2.ln hLn) (by omega) (by omega) ht hA2.snd.symm ?_
                  refine g_F0 (fa := fun _ => 0) (fz := fun _ _ => .inr (0, [])) (φ := z0) ?_
                  refine g_iincN X t 17 [(17, .int _), (0, .ref _), (1, .ref _), (2, .ref _), (3, .int _), (4, .int _), (12, .int _), (13, .int _)] 7 dL_law_969 rfl (by decide) rfl ?_
                  refine g_goto X 713 dL_law_972 (by decide) ?_
                  refine g_0F ?_
                  refine g_ls (ls' := [(0, .ref _), (1, .ref _), (2, .ref _), (3, .int _), (4, .int _), (12, .int _), (13, .int _), (17, .int _)]) [1, 2, 3, 4, 5, 6, 7, 0] rfl ?_
                  refine g_widen (k9 := C1 + 400 * (t + 1)) (n9 := S1 + 2400 * (t + 1)) (by omega) (by omega) ?_
                  exact ih9 (t + 1) (by omega) ρ2 (hAp.tr hA2) (hA2.inx hX)
                · exfalso; exact c_14 rfl
              · exfalso; exact c_13 (lp.mp k0)
            · skip
              have k0 : ¬ laK ρ1 t 99 0 = 0 := fun h => c_12 (by rw [h]; decide)
              refine g_iconst X (v := 1) dL_law_853 (by decide) ?_
              refine g_goto X 858 dL_law_854 (by decide) ?_
              refine g_iload X dL_law_858 10 rfl ?_
              refine g_bipush X (v := 30) dL_law_860 (by decide) ?_
              refine g_icmp_lt X 869 dL_law_862 (by decide) (fun c_15 => ?_) (fun c_15 => ?_)
              · exfalso; exact k0 (lp.mpr c_15)
              · skip
                refine g_iconst X (v := 1) dL_law_865 (by decide) ?_
                refine g_goto X 870 dL_law_866 (by decide) ?_
                refine g_icmp_eqN X 1 1 875 (by omega) (by omega) dL_law_870 (by decide) (fun c_16 => ?_) (fun c_16 => ?_)
                · skip
                  refine g_0F ?_
                  refine g_ls (ls' := [(0, .ref _), (1, .ref _), (2, .ref _), (3, .int _), (4, .int _), (12, .int _), (13, .int _), (17, .int _), (20, .int _)]) [0, 1, 2, 3, 4, 5, 6, 7, 10] rfl ?_
                  refine law_Ez (C1 := ((((((((C1 + 400 * t) + 6 * k) + 3) + 3) + 0) + 3) + 3) + 3)) (S1 := ((((((((S1 + 2400 * t) + 36 * k) + 18) + 18) + 0) + 18) + 18) + 18)) X hl0 hE hZ (hA2.inx hX) (hA2.ln hLn) (by omega) (by omega) ht hA2.snd.symm ?_
                  refine g_F0 (fa := fun _ => 0) (fz := fun _ _ => .inr (0, [])) (φ := z0) ?_
                  refine g_iincN X t 17 [(17, .int _), (0, .ref _), (1, .ref _), (2, .ref _), (3, .int _), (4, .int _), (12, .int _), (13, .int _)] 7 dL_law_969 rfl (by decide) rfl ?_
                  refine g_goto X 713 dL_law_972 (by decide) ?_
                  refine g_0F ?_
                  refine g_ls (ls' := [(0, .ref _), (1, .ref _), (2, .ref _), (3, .int _), (4, .int _), (12, .int _), (13, .int _), (17, .int _)]) [1, 2, 3, 4, 5, 6, 7, 0] rfl ?_
                  refine g_widen (k9 := C1 + 400 * (t + 1)) (n9 := S1 + 2400 * (t + 1)) (by omega) (by omega) ?_
                  exact ih9 (t + 1) (by omega) ρ2 (hAp.tr hA2) (hA2.inx hX)
                · exfalso; exact c_16 rfl
      · skip
        refine g_iload X dL_law_743 9 rfl ?_
        refine g_aload_n X dL_law_745 1 rfl rfl ?_
        refine g_aload_n X dL_law_746 1 rfl rfl ?_
        refine g_iload X dL_law_747 7 rfl ?_
        refine g_iload X dL_law_749 10 rfl ?_
        refine g_yc (F := 0) X hE (gYI_1 (c_X3_note l hl0 D cy ad ρ N T S d hI (nI t) (nI k)) (not_ok (t := t) (k := k) hT hT6 (by omega) (hLn t (by omega)).1 (hLn t (by omega)).2 (by omega))) kl_L_134 ⟨rfl, rfl, Nat.le_of_ble_eq_true rfl, Nat.le_of_ble_eq_true rfl⟩ rfl rfl (Nat.le_of_ble_eq_true rfl) dL_law_751 ⟨by show _ ≤ 600172; omega, by show _ ≤ 7300668; omega⟩ ?_
        obtain ⟨q, hq, eq9⟩ := hLq k (by omega)
        rw [eq9]
        refine g_iconst X (v := 3) dL_law_754 (by decide) ?_
        refine g_yc (F := 0) X hE (gYI_1 (c_X3_pipe l hl0 D cy ad ρ N T S d hI (nI q) (nI 3)) (pip_ok (i := q) (w := 3) (by omega) (by omega))) kl_L_115 ⟨rfl, rfl, Nat.le_of_ble_eq_true rfl, Nat.le_of_ble_eq_true rfl⟩ rfl rfl (Nat.le_of_ble_eq_true rfl) dL_law_755 ⟨by show _ ≤ 600172; omega, by show _ ≤ 7300668; omega⟩ ?_
        refine g_iadd X dL_law_758 ?_
        refine g_istore X [(19, .int _), (0, .ref _), (1, .ref _), (2, .ref _), (3, .int _), (4, .int _), (12, .int _), (13, .int _), (17, .int _), (18, .int _), (20, .int _)] dL_law_759 (by decide) rfl ?_
        refine g_iincN X k 20 [(20, .int _), (19, .int _), (0, .ref _), (1, .ref _), (2, .ref _), (3, .int _), (4, .int _), (12, .int _), (13, .int _), (17, .int _), (18, .int _)] 10 dL_law_761 rfl (by decide) rfl ?_
        refine g_goto X 736 dL_law_764 (by decide) ?_
        refine g_ls (ls' := [(0, .ref _), (1, .ref _), (2, .ref _), (3, .int _), (4, .int _), (12, .int _), (13, .int _), (17, .int _), (18, .int _), (19, .int _), (20, .int _)]) [2, 3, 4, 5, 6, 7, 8, 9, 10, 1, 0] rfl ?_
        refine g_widen (k9 := ((C1 + 400 * t) + 6 * (k + 1))) (n9 := ((S1 + 2400 * t) + 36 * (k + 1))) (by omega) (by omega) ?_
        exact g_eqv (ihk (by omega) trivial) ((by rw [sumI_s, show sdS ρ t k = tellF ρ 1 q 3 by unfold sdS; rw [eq9, ix_N (by omega)]; rfl])) (rfl) rfl rfl
end LGE
