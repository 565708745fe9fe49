/-! The law: both play -/
section LPF
variable {ρ σ : gSt} {N T S d t z i : Nat}
theorem hP_mono (h : pipI ρ 1 i) (hw : ∃ w w' : Nat, w ≤ w' ∧ w' ≤ 30 ∧ ρ 2 i = nI w ∧ σ 2 i = nI w') (h3 : σ 3 i = ρ 3 i) (h4 : σ 4 i = ρ 4 i) : ∃ a b : Nat, a ≤ b ∧ b ≤ 60 ∧ hP ρ 1 i = nI a ∧ hP σ 1 i = nI b := by
  obtain ⟨w, w', h1, h2, e1, e2⟩ := hw
  obtain ⟨q, hq, eq⟩ := ab_N h.2.1
  have eq : ab (ρ 3 i) = nI q := eq
  unfold hP hm
  show ∃ a b : Nat, a ≤ b ∧ b ≤ 60 ∧ (if ρ 4 i = 0 then mnI 60 (ab (ρ 3 i) + 2 * ρ 2 i) else 60) = nI a ∧ (if σ 4 i = 0 then mnI 60 (ab (σ 3 i) + 2 * σ 2 i) else 60) = nI b
  rw [h4, h3]
  by_cases h0 : ρ 4 i = 0
  · rw [if_pos h0, if_pos h0, eq, e1, e2, show (2 : Int32) * nI w = nI (2 * w) from pk_mul 2 w, show (2 : Int32) * nI w' = nI (2 * w') from pk_mul 2 w', nI_add, nI_add]
    exact ⟨min 60 (q + 2 * w), min 60 (q + 2 * w'), by omega, by omega, mn_N (x := 60) (by omega) (by omega), mn_N (x := 60) (by omega) (by omega)⟩
  · rw [if_neg h0, if_neg h0]
    exact ⟨60, 60, by omega, by omega, rfl, rfl⟩
theorem sumI_mono {f g : Nat → Int32} {k : Nat} (h : ∀ j, j < k → ∃ a b : Nat, a ≤ b ∧ b ≤ 60 ∧ f j = nI a ∧ g j = nI b) : ∃ a b : Nat, a ≤ b ∧ b ≤ 60 * k ∧ sumI f k = nI a ∧ sumI g k = nI b := by
  induction k with
  | zero => exact ⟨0, 0, by omega, by omega, rfl, rfl⟩
  | succ k ih =>
    obtain ⟨a, b, h1, h2, e1, e2⟩ := ih (fun j hj => h j (by omega))
    obtain ⟨a', b', h3, h4, e3, e4⟩ := h k (by omega)
    exact ⟨a + a', b + b', by omega, by omega, by rw [sumI_s, e1, e3, nI_add], by rw [sumI_s, e2, e4, nI_add]⟩
theorem snd_mono (hT : tunI ρ t) (hs : ∀ k, 14 + 3 * t ≤ k → k ≤ 16 + 3 * t → σ k = ρ k) (hh : ∀ i, i < 12 → ∃ a b : Nat, a ≤ b ∧ b ≤ 60 ∧ hP ρ 1 i = nI a ∧ hP σ 1 i = nI b) : ∃ u v : Nat, v ≤ u ∧ u ≤ 60 ∧ sndC ρ 1 t (-1) = nI u ∧ sndC σ 1 t (-1) = nI v := by
  obtain ⟨L, hL, hL16, hLn, hLc⟩ := id hT
  obtain ⟨L', hL', hL16', hLn', hLc'⟩ := tun_cg hT hs
  obtain rfl : L' = L := (nI_eq (by omega) (by omega)).mp (by rw [← hL, ← hL', hs _ (by omega) (by omega)])
  rw [snd_eq hL hL16 hLn hLc, snd_eq hL' hL16 hLn' hLc', hL, hL']
  by_cases h0 : nI L' = 0
  · rw [if_pos h0, if_pos h0]
    exact ⟨0, 0, by omega, by omega, rfl, rfl⟩
  · have hL0 : L' ≠ 0 := fun q => h0 (by rw [q]; rfl)
    obtain ⟨a, b, h1, h2, e1, e2⟩ := sumI_mono (f := fun k => if ρ (15 + 3 * t) k = -1 then 0 else hP ρ 1 (ix (ρ (15 + 3 * t) k))) (g := fun k => if σ (15 + 3 * t) k = -1 then 0 else hP σ 1 (ix (σ (15 + 3 * t) k))) (k := L') (fun j hj => by
      show ∃ a b : Nat, a ≤ b ∧ b ≤ 60 ∧ (if ρ (15 + 3 * t) j = -1 then 0 else hP ρ 1 (ix (ρ (15 + 3 * t) j))) = nI a ∧ (if σ (15 + 3 * t) j = -1 then 0 else hP σ 1 (ix (σ (15 + 3 * t) j))) = nI b
      rw [hs (15 + 3 * t) (by omega) (by omega)]
      obtain ⟨q, hq, eq⟩ := hLn j hj
      by_cases h9 : ρ (15 + 3 * t) j = -1
      · rw [if_pos h9, if_pos h9]
        exact ⟨0, 0, by omega, by omega, rfl, rfl⟩
      · rw [if_neg h9, if_neg h9, eq, show ix (nI q) = q from nI_clamp (by omega)]
        exact hh q hq)
    have hb : b ≤ 60 * 16 := by omega
    have h5 : b / L' ≤ 60 := Nat.div_le_of_le_mul (by rw [Nat.mul_comm]; exact h2)
    have h6 : a / L' ≤ b / L' := Nat.div_le_div_right h1
    refine ⟨60 - a / L', 60 - b / L', Nat.sub_le_sub_left h6 60, Nat.sub_le _ _, ?_, ?_⟩
    · rw [if_neg h0, e1, pk_div (by omega) (by omega) (by omega), show (60 : Int32) = nI 60 from rfl, pk_sub (by omega)]
    · rw [if_neg h0, e2, pk_div (by omega) (by omega) (by omega), show (60 : Int32) = nI 60 from rfl, pk_sub (by omega)]
theorem ply_worn (hX : Inx ρ N T S d) (ht : t < 6) (hz : z < 8) (hi : i < 12) : ∃ w w' : Nat, w ≤ w' ∧ w' ≤ 30 ∧ ρ 2 i = nI w ∧ plyR ρ z t 2 i = nI w' := by
  obtain ⟨⟨w, hw, ew⟩, _⟩ := hX.1.2.2.2.2.2.2.2.2.2.1 i hi
  have ew : ρ 2 i = nI w := ew
  obtain ⟨L, hL, hL16, hLn, hLc⟩ := hX.1.2.2.2.2.2.2.2.1 t ht
  obtain ⟨q, hq, eq⟩ := cnt_N (f := ρ (15 + 3 * t)) (x := nI i) (L := L)
  have e16 : (up2 (up2 (up2 ρ 0 8 (ρ 0 8 + pyN ρ z t)) (32 + 2 * z) 3 (ρ (32 + 2 * z) 3 + pyN ρ z t)) (33 + 2 * z) t (ρ (33 + 2 * z) t + 1)) (16 + 3 * t) = ρ (16 + 3 * t) := by
    funext j
    rw [up2_k (by omega), up2_k (by omega), up2_k (by omega)]
  have e2 : (up2 (up2 (up2 ρ 0 8 (ρ 0 8 + pyN ρ z t)) (32 + 2 * z) 3 (ρ (32 + 2 * z) 3 + pyN ρ z t)) (33 + 2 * z) t (ρ (33 + 2 * z) t + 1)) 2 = ρ 2 := by
    funext j
    rw [up2_k (by omega), up2_k (by omega), up2_k (by omega)]
  unfold plyR wdR
  rw [e16]
  simp only [e2]
  by_cases h0 : i < 12 ∧ 0 < ρ (16 + 3 * t) i
  · rw [if_pos h0, if_pos trivial, hLc i hi, eq, ew, nI_add]
    exact ⟨w, min 30 (w + q), by omega, by omega, rfl, mn_N (x := 30) (by omega) (by omega)⟩
  · rw [if_neg h0, ew]
    exact ⟨w, w, by omega, hw, rfl, rfl⟩
theorem ply_uv (hX : Inx ρ N T S d) (ht : t < 6) (hz : z < 8) : ∃ u v : Nat, v ≤ u ∧ u ≤ 60 ∧ sndC ρ 1 t (-1) = nI u ∧ sndC (plyR ρ z t) 1 t (-1) = nI v :=
  snd_mono (hX.1.2.2.2.2.2.2.2.1 t ht) (fun k h1 h2 => plyR_o (by omega) (by omega) (by omega) (by omega) (by omega)) (fun i hi => hP_mono (hX.1.2.2.2.2.2.2.2.2.2.1 i hi) (ply_worn hX ht hz hi) (by rw [plyR_o (by omega) (by omega) (by omega) (by omega) (by omega)]) (by rw [plyR_o (by omega) (by omega) (by omega) (by omega) (by omega)]))
theorem ply_snd (hX : Inx ρ N T S d) (ht : t < 6) (hz : z < 8) : ¬ sndC ρ 1 t (-1) < sndC (plyR ρ z t) 1 t (-1) := by
  obtain ⟨u, v, h1, h2, e1, e2⟩ := ply_uv hX ht hz
  rw [e1, e2, nI_ltI (by omega) (by omega)]
  omega
theorem ply_half (hX : Inx ρ N T S d) (ht : t < 6) (hz : z < 8) : ¬ pyN ρ z t / 2 < pyN (plyR ρ z t) z t := by
  obtain ⟨u, v, h1, h2, e1, e2⟩ := ply_uv hX ht hz
  obtain ⟨⟨x, hx, ex⟩, hh⟩ := hX.1.2.2.2.2.2.2.2.2.1 z hz
  obtain ⟨h, hhN, eh⟩ := hh t ht
  have hN := hX.1.2.2.2.2.2.2.1
  have a1 : x * v ≤ x * u := Nat.mul_le_mul_left _ h1
  have a2 : x * u ≤ 90 * 60 := Nat.mul_le_mul hx h2
  have a3 : x * v / 60 ≤ x * u / 60 := Nat.div_le_div_right a1
  have a4 : x * u / 60 ≤ 90 := by omega
  have r1 : plyR ρ z t (32 + 2 * z) 1 = ρ (32 + 2 * z) 1 := by
    unfold plyR
    rw [wd_out (by omega) (by omega), up2_k (by omega), up2_j (by omega), up2_k (by omega)]
  have r2 : plyR ρ z t (33 + 2 * z) t = ρ (33 + 2 * z) t + 1 := by
    unfold plyR
    rw [wd_out (by omega) (by omega), up2_s]
  unfold pyN payV
  rw [r1, r2, e1, e2, ex, pk_mul, pk_mul, show (60 : Int32) = nI 60 from rfl, pk_div (by omega) (by omega) (by omega), pk_div (by omega) (by omega) (by omega), eh, show (1 : Int32) = nI 1 from rfl, nI_add, nI_clamp (by omega), nI_clamp (by omega), nI_clamp (by omega), nI_clamp (by omega), halfN (by omega)]
  have a5 : x * u / 60 / 2 ^ (h + 1) ≤ 90 := Nat.le_trans (Nat.div_le_self _ _) a4
  have a6 : x * v / 60 / 2 ^ (h + 1) ≤ x * u / 60 / 2 ^ (h + 1) := Nat.div_le_div_right a3
  rw [nI_ltI (by omega) (by omega)]
  omega
end LPF
section LGF
variable {p : Program} {l : Launch} {e : Env} {s : State} {m : MethodId} {args : Array Value} {below : List Frame} {meth : Method} {c : Code} {Q : State → Prop}
variable {Ts : List Cond} {D : va_G} {cy : Nat → ClassId} {A : Nat → Prop}
variable {ad : Nat → Nat} {ρ : gSt} {C1 S1 : Nat} {S T N d i b : Nat} {Ln : Nat → Nat} {x : Int32}
set_option maxHeartbeats 4000000 in
set_option maxRecDepth 100000 in
theorem law_F (X : gX p m c cL_law 23 s args Ts RL D cy A) (hl0 : l.stackTraces = false) (hE : gEnv s A) (hZ : zAO s) (hX : Inx ρ N T S d) (hLn : LnOK ρ T Ln) (hc1 : C1 + 100 ≤ 600172) (hs1 : S1 + 600 ≤ 7300668) (hN9 : N < 600) (kk : ∀ ρ : gSt, Inx ρ (N + 1) T S d → LnOK ρ T Ln → GW p l e { frames := 12, cells := 600172, slots := 7300668, locals := 442 } s m args below meth c Q 23 D A (48 + (8 + S + T)) ad (cW ad cy S T Ln) (wR S ρ ρ) (C1 + 100) (S1 + 600) 1106 [(0, .ref b), (1, .ref (ad 0)), (2, .ref (ad 48)), (3, .int (nI i))] []) : GW p l e { frames := 12, cells := 600172, slots := 7300668, locals := 442 } s m args below meth c Q 23 D A (48 + (8 + S + T)) ad (cW ad cy S T Ln) (wR S ρ ρ) C1 S1 975 [(0, .ref b), (1, .ref (ad 0)), (2, .ref (ad 48)), (3, .int (nI i)), (4, .int x), (12, .int (nI T)), (13, .int (nI S))] [] := by
  obtain ⟨hT, hT6, hS, hS8, hd, hdN, hN, hTu0, hSt, hPi, hZ9, hHd⟩ := id hX.1
  have hI := hX.1
  have hTu : ∀ t, t < T → tunI ρ t := fun t ht => hTu0 t (by omega)
  have hwd : wdF ρ = nI (d % 7) := by unfold wdF; rw [hd, nI_clamp (by omega)]
  refine g_F0 (fa := fun _ => 0) (fz := fun _ _ => .inr (0, [])) (φ := z0) ?_
  refine g_iload X dL_law_975 6 rfl ?_
  refine g_if_eq X 1106 dL_law_977 (by decide) (fun c_1 => ?_) (fun c_1 => ?_)
  · skip
    refine g_0F ?_
    refine g_ls (ls' := [(0, .ref _), (1, .ref _), (2, .ref _), (3, .int _)]) [0, 1, 2, 3] rfl ?_
    exact g_widen (by omega) (by omega) (kk ρ (Inx_up hX (by omega) (by omega)) hLn)
  · skip
    have hS0 : S ≠ 0 := fun h => c_1 (by rw [h]; rfl)
    refine g_iload X dL_law_980 5 rfl ?_
    refine g_if_ne X 988 dL_law_982 (by decide) (fun c_2 => ?_) (fun c_2 => ?_)
    · skip
      have hT0 : T ≠ 0 := fun h => c_2 (by rw [h]; rfl)
      refine g_iload X dL_law_988 4 rfl ?_
      refine g_iconst X (v := 3) dL_law_990 (by decide) ?_
      refine g_ishr X dL_law_991 ?_
      refine g_iload X dL_law_992 5 rfl ?_
      refine g_below X T (by omega) (by omega) kl_L_15 ⟨Nat.le_of_ble_eq_true rfl, Nat.le_of_ble_eq_true rfl⟩ (Nat.le_of_ble_eq_true rfl) dL_law_994 ⟨by show _ ≤ 600172; omega, by show _ ≤ 7300668; omega⟩ (fun t9 ht9 => ?_)
      skip
      refine g_istore X [(17, .int _), (0, .ref _), (1, .ref _), (2, .ref _), (3, .int _), (4, .int _), (12, .int _), (13, .int _)] dL_law_997 (by decide) rfl ?_
      refine g_iload X dL_law_999 5 rfl ?_
      refine g_iconst X (v := 5) dL_law_1001 (by decide) ?_
      refine g_ishr X dL_law_1002 ?_
      refine g_iload X dL_law_1003 7 rfl ?_
      refine g_below X S (by omega) (by omega) kl_L_15 ⟨Nat.le_of_ble_eq_true rfl, Nat.le_of_ble_eq_true rfl⟩ (Nat.le_of_ble_eq_true rfl) dL_law_1005 ⟨by show _ ≤ 600172; omega, by show _ ≤ 7300668; omega⟩ (fun z9 hz9 => ?_)
      refine g_istore X [(18, .int _), (17, .int _), (0, .ref _), (1, .ref _), (2, .ref _), (3, .int _), (4, .int _), (12, .int _), (13, .int _)] dL_law_1008 (by decide) rfl ?_
      refine g_aload_n X dL_law_1010 4 rfl rfl ?_
      refine g_getr X (0 + 48 + 0) (by show 0 + 48 + 0 < 0 + (48 + (8 + S + T)); omega) 7 (by decide) ku_X4 kv_X4 kf_L_9 rfl (gSub_fr (off := 0 + 48) sub_FS lS_tunes (by omega) (by omega)) dL_law_1011 ?_
      refine g_iload X dL_law_1014 1 rfl ?_
      refine g_aaldA X (0 + 48 + 5) t9 (by show 0 + 48 + 5 < 0 + (48 + (8 + S + T)); omega) (gSub_ar (off := 0 + 48) sub_FS lS_ts (by omega) (fun i hi => by omega)) rfl (by omega) (by omega) dL_law_1016 ?_
      rw [jF_48]
      refine g_alenS (F := 0) X (8 + S + t9) lS_tu (by omega) dL_law_1017 ?_
      refine g_if_eq X 1106 dL_law_1018 (by decide) (fun c_3 => ?_) (fun c_3 => ?_)
      · skip
        refine g_0F ?_
        refine g_ls (ls' := [(0, .ref _), (1, .ref _), (2, .ref _), (3, .int _)]) [2, 3, 4, 5] rfl ?_
        exact g_widen (by omega) (by omega) (kk ρ (Inx_up hX (by omega) (by omega)) hLn)
      · skip
        have hL9 : ¬ ρ (14 + 3 * t9) 2 = 0 := by rw [(hLn t9 ht9).1]; exact c_3
        refine g_aload_n X dL_law_1021 3 rfl rfl ?_
        refine g_iload X dL_law_1022 0 rfl ?_
        refine g_iconst X (v := 2) dL_law_1024 (by decide) ?_
        refine g_yc (F := 0) X hE (gYI_1 (c_X3_told l hl0 D cy ad ρ N T S d hI (nI z9) (nI 2)) (tol_ok (z := z9) (w := 2) hS hS8 (by omega) (by omega))) kl_L_121 ⟨rfl, rfl, Nat.le_of_ble_eq_true rfl, Nat.le_of_ble_eq_true rfl⟩ rfl rfl (Nat.le_of_ble_eq_true rfl) dL_law_1025 ⟨by show _ ≤ 600172; omega, by show _ ≤ 7300668; omega⟩ ?_
        refine g_if_ne X 1034 dL_law_1028 (by decide) (fun c_4 => ?_) (fun c_4 => ?_)
        · skip
          have hpm : ¬ pmF (ρ (32 + 2 * z9) 2) (wdF ρ) = 0 := c_4
          have hRp : plR ρ z9 t9 = plyR ρ z9 t9 := if_neg hpm
          have hXσ := (ax_pla hX hN9 hz9 ht9 hL9).1
          have hLnσ : LnOK (plR ρ z9 t9) T Ln := Ln_cg hLn (fun t ht => plR_tun (by omega) (by omega))
          rw [hRp] at hXσ hLnσ
          have hmo := ply_snd hX (t := t9) (z := z9) (by omega) (by omega)
          have hha := ply_half hX (t := t9) (z := z9) (by omega) (by omega)
          obtain ⟨σ, eσ⟩ : ∃ r, r = plyR ρ z9 t9 := ⟨_, rfl⟩
          rw [← eσ] at hXσ hLnσ hmo hha hRp
          refine g_aload_n X dL_law_1034 3 rfl rfl ?_
          refine g_iload X dL_law_1035 1 rfl ?_
          refine g_yc (F := 0) X hE (gYI_1 (c_X3_sound l hl0 D cy ad ρ N T S d hI (nI t9)) (sou_ok (t := t9) hT hT6 (by omega))) kl_L_137 ⟨rfl, rfl, Nat.le_of_ble_eq_true rfl, Nat.le_of_ble_eq_true rfl⟩ rfl rfl (Nat.le_of_ble_eq_true rfl) dL_law_1037 ⟨by show _ ≤ 600172; omega, by show _ ≤ 7300668; omega⟩ ?_
          refine g_istore X [(19, .int _), (18, .int _), (17, .int _), (0, .ref _), (1, .ref _), (2, .ref _), (3, .int _), (4, .int _), (12, .int _), (13, .int _)] dL_law_1040 (by decide) rfl ?_
          refine g_aload_n X dL_law_1042 4 rfl rfl ?_
          refine g_iload X dL_law_1043 1 rfl ?_
          refine g_iload X dL_law_1045 2 rfl ?_
          refine g_yc (F := 0) X hE (gYI_1 (c_X3_pays l hl0 D cy ad ρ N T S d hI (nI z9) (nI t9)) (pay_ok (z := z9) (t := t9) hT hT6 hS hS8 (by omega) (by omega))) kl_L_146 ⟨rfl, rfl, Nat.le_of_ble_eq_true rfl, Nat.le_of_ble_eq_true rfl⟩ rfl rfl (Nat.le_of_ble_eq_true rfl) dL_law_1047 ⟨by show _ ≤ 600172; omega, by show _ ≤ 7300668; omega⟩ ?_
          refine g_istore X [(20, .int _), (19, .int _), (18, .int _), (17, .int _), (0, .ref _), (1, .ref _), (2, .ref _), (3, .int _), (4, .int _), (12, .int _), (13, .int _)] dL_law_1050 (by decide) rfl ?_
          refine g_aload_n X dL_law_1052 5 rfl rfl ?_
          refine g_iload X dL_law_1053 2 rfl ?_
          refine g_iload X dL_law_1055 3 rfl ?_
          refine g_yc (F := 0) X hE (gYI_2 (c_X3_play l hl0 D cy ad ρ N T S d hI (nI z9) (nI t9)) (pla_ok hT hT6 hS hS8 hz9 ht9 hL9)) kl_L_91 ⟨rfl, rfl, Nat.le_of_ble_eq_true rfl, Nat.le_of_ble_eq_true rfl⟩ rfl rfl (Nat.le_of_ble_eq_true rfl) dL_law_1057 ⟨by show _ ≤ 600172; omega, by show _ ≤ 7300668; omega⟩ ?_
          rw [show plV ρ z9 t9 = pyN ρ z9 t9 from if_neg hpm]
          rw [hRp]
          refine g_iload X dL_law_1060 0 rfl ?_
          refine g_icmp_ne X 1104 dL_law_1062 (by decide) (fun c_5 => ?_) (fun c_5 => ?_)
          · exfalso; exact c_5 rfl
          · skip
            refine g_aload_n X dL_law_1065 6 rfl rfl ?_
            refine g_iload X dL_law_1066 2 rfl ?_
            refine g_iload X dL_law_1068 3 rfl ?_
            refine g_sc (F := 0) X (c_X4_play l D cy (aS ad) ρ S T Ln z9 t9 d hz9 ht9 hT6 hS8 (hTu t9 (by omega)) (hLn t9 ht9) (Inv_pay hI (by omega) (by omega)) hwd hd (by omega) (hX.2.1 z9 (by omega)) (fun j hj => (hPi j hj).1)) kl_L_94 ⟨rfl, rfl, Nat.le_of_ble_eq_true rfl, Nat.le_of_ble_eq_true rfl⟩ rfl rfl (Nat.le_of_ble_eq_true rfl) dL_law_1070 ⟨by show _ ≤ 600172; omega, by show _ ≤ 7300668; omega⟩ ?_
            rw [show plV ρ z9 t9 = pyN ρ z9 t9 from if_neg hpm]
            rw [hRp]
            obtain ⟨hT, hT6, hS, hS8, hd, hdN, hN, hTu0, hSt, hPi, hZ9, hHd⟩ := id hXσ.1
            have hI := hXσ.1
            refine g_iload X dL_law_1073 0 rfl ?_
            refine g_icmp_ne X 1104 dL_law_1075 (by decide) (fun c_6 => ?_) (fun c_6 => ?_)
            · exfalso; exact c_6 rfl
            · skip
              refine g_aload_n X dL_law_1078 5 rfl rfl ?_
              refine g_iload X dL_law_1079 3 rfl ?_
              refine g_yc (F := 0) X hE (gYI_1 (c_X3_sound l hl0 D cy ad σ (N + 1) T S d hI (nI t9)) (sou_ok (t := t9) hT hT6 (by omega))) kl_L_137 ⟨rfl, rfl, Nat.le_of_ble_eq_true rfl, Nat.le_of_ble_eq_true rfl⟩ rfl rfl (Nat.le_of_ble_eq_true rfl) dL_law_1081 ⟨by show _ ≤ 600172; omega, by show _ ≤ 7300668; omega⟩ ?_
              refine g_iload X dL_law_1084 1 rfl ?_
              refine g_icmp_gt X 1104 dL_law_1086 (by decide) (fun c_7 => ?_) (fun c_7 => ?_)
              · exfalso; exact hmo c_7
              · skip
                refine g_aload_n X dL_law_1089 5 rfl rfl ?_
                refine g_iload X dL_law_1090 2 rfl ?_
                refine g_iload X dL_law_1092 3 rfl ?_
                refine g_yc (F := 0) X hE (gYI_1 (c_X3_pays l hl0 D cy ad σ (N + 1) T S d hI (nI z9) (nI t9)) (pay_ok (z := z9) (t := t9) hT hT6 hS hS8 (by omega) (by omega))) kl_L_146 ⟨rfl, rfl, Nat.le_of_ble_eq_true rfl, Nat.le_of_ble_eq_true rfl⟩ rfl rfl (Nat.le_of_ble_eq_true rfl) dL_law_1094 ⟨by show _ ≤ 600172; omega, by show _ ≤ 7300668; omega⟩ ?_
                refine g_iload X dL_law_1097 0 rfl ?_
                refine g_iconst X (v := 2) dL_law_1099 (by decide) ?_
                refine g_idiv X dL_law_1100 (by decide) ?_
                refine g_icmp_le X 1106 dL_law_1101 (by decide) (fun c_8 => ?_) (fun c_8 => ?_)
                · skip
                  refine g_0F ?_
                  refine g_ls (ls' := [(0, .ref _), (1, .ref _), (2, .ref _), (3, .int _)]) [4, 5, 6, 7] rfl ?_
                  exact g_widen (by omega) (by omega) (kk σ hXσ hLnσ)
                · exfalso; exact hha (Int32.not_le.mp c_8)
        · skip
          refine g_goto X 1106 dL_law_1031 (by decide) ?_
          refine g_0F ?_
          refine g_ls (ls' := [(0, .ref _), (1, .ref _), (2, .ref _), (3, .int _)]) [2, 3, 4, 5] rfl ?_
          exact g_widen (by omega) (by omega) (kk ρ (Inx_up hX (by omega) (by omega)) hLn)
    · skip
      refine g_goto X 1106 dL_law_985 (by decide) ?_
      refine g_0F ?_
      refine g_ls (ls' := [(0, .ref _), (1, .ref _), (2, .ref _), (3, .int _)]) [0, 1, 2, 3] rfl ?_
      exact g_widen (by omega) (by omega) (kk ρ (Inx_up hX (by omega) (by omega)) hLn)

end LGF
