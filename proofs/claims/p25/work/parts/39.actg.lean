/-! act: its contract, and the ways on which it makes rows anew -/
abbrev gU : Type := (Nat → Nat) × Nat × Nat × (Nat → Nat) × gSt
def uW (cy : Nat → ClassId) (u : gU) : va_W := gWl (48 + (8 + u.2.1 + u.2.2.1)) u.1 (cW u.1 cy u.2.1 u.2.2.1 u.2.2.2.1) (wR u.2.1 u.2.2.2.2 u.2.2.2.2)
def actP (ad : Nat → Nat) (ρ : gSt) (N d : Nat) (r : Int32) (u : gU) : Prop := r = 1 ∧ (u.1 0 = ad 0 ∧ u.1 48 = ad 48) ∧ Inx u.2.2.2.2 (N + 5) u.2.2.1 u.2.1 d ∧ LnOK u.2.2.2.2 u.2.2.1 u.2.2.2.1 ∧ Act ρ u.2.2.2.2
def actB (D : va_G) (cy : Nat → ClassId) (A : Nat → Prop) (u : gU) (t : State) : Prop := va_P D vwCl (uW cy u) t.heap ∧ va_D A (uW cy u)
theorem cW_F5 {F S T : Nat} {ad : Nat → Nat} {cy : Nat → ClassId} {fz : Nat → (Nat → Int32) → va_E} {φ ρ σ : gSt} {Ln : Nat → Nat} : jF F fz (cW ad cy S T Ln) (F + 48 + 5) (jF F φ (wR S ρ σ) (F + 48 + 5)) = .inl (cy 4, T, rfs (fun i => some (aS ad (8 + S + i)))) := by
  rw [show F + 48 + 5 = F + (48 + 5) by omega, jF_hi, jF_hi, cW_S]
  rfl
section AG
variable {p : Program} {l : Launch} {e : Env} {R : Room} {s : State} {m : MethodId} {args : Array Value} {below : List Frame} {meth : Method} {c : Code} {Q : State → Prop}
variable {cc : ByteArray} {nL : Nat} {Ts : List Cond} {own : String} {D : va_G} {cy : Nat → ClassId} {A : Nat → Prop}
variable {n n' : Nat} {ad ad' : Nat → Nat} {cz cz' : Nat → (Nat → Int32) → va_E} {ρ ρ' : gSt} {cells slots pc : Nat} {ls ls' : List (Nat × Value)} {st st0 rest : List Value}
variable {y : MethodName} {rm : Room} {bytes : ByteArray} {maxL nA index mc ms : Nat} {ret : Option FieldType} {C : String} {Tf : u_T} {Nf ci : Nat} {As : List Value}
theorem g_acret (X : gX p m c cc nL s args Ts own D cy A) (hr : meth.sig.returnType = some .boolean) (hlocks : meth.locks = false) {ad0 : Nat → Nat} {ρ0 : gSt} {N d S T : Nat} {Ln : Nat → Nat} (hc : cells ≤ mc) (hs : slots ≤ ms) (hd : decode cc pc = .ok (.ireturn, 1)) (h0 : ad 0 = ad0 0) (h48 : ad 48 = ad0 48) (hX : Inx ρ (N + 5) T S d) (hLn : LnOK ρ T Ln) (hA : Act ρ0 ρ) : GW p l e R s m args below meth c (MQ below (va_Qi (actP ad0 ρ0 N d) (actB D cy A) A) args s mc ms A) nL D A (48 + (8 + S + T)) ad (cW ad cy S T Ln) (wR S ρ ρ) cells slots pc ls [.int 1] := fun H locs la hP hD hS hl => W.widen hc hs (W.zret X.1.1 X.1.2.1 hr (by decide) (fun t ht hW => ⟨⟨1, (ad, S, T, Ln, ρ), rfl, ⟨rfl, ⟨h0, h48⟩, hX, hLn, hA⟩, by show va_P D vwCl (uW cy (ad, S, T, Ln, ρ)) t.heap; rw [ht]; exact hP, hD⟩, hS.F ht⟩) hS.2.2 hd hlocks)
variable {S T N d t j0 u w : Nat} {Ln : Nat → Nat} {x : Int32}
set_option maxHeartbeats 2000000 in
set_option maxRecDepth 100000 in
theorem act_bar (X : gX p m c cL_act 8 s args Ts RL D cy A) (hl0 : l.stackTraces = false) (hE : gEnv s A) (hZ : zAO s) (hr : meth.sig.returnType = some .boolean) (hlk : meth.locks = false) (hX : Inx ρ N T S d) (hLn : LnOK ρ T Ln) (hN : N + 5 ≤ 600) (h6 : T < 6) : GW p l e { frames := 8, cells := 20, slots := 100, locals := 134 } s m args below meth c (MQ below (va_Qi (actP ad ρ N d) (actB D cy A) A) args s 20 100 A) 8 D A (48 + (8 + S + T)) ad (cW ad cy S T Ln) (wR S ρ ρ) 0 0 132 [(0, .ref (ad 0)), (1, .ref (ad 48))] [] := by
  obtain ⟨hT, hT6, hS, hS8, hd, hdN, hN6, hTu0, hSt, hPi, hZ9, hHd⟩ := id hX.1
  obtain ⟨_, g2, g3, ⟨c0, hc0, ec0⟩, g5, g6⟩ := id hX
  have hI := hX.1
  refine g_aload_n X dL_act_132 1 rfl rfl ?_
  refine g_aload_n X dL_act_133 1 rfl rfl ?_
  refine g_getr X 48 (by omega) 7 (by decide) ku_X4 kv_X4 kf_L_9 rfl (k2 := 48 + 5) (gSub_fr (off := 48) sub_S lS_tunes (by omega) (by omega)) dL_act_134 ?_
  refine g_iconst X (v := nI 0) dL_act_137 (by decide) ?_
  refine g_newi X 0 (by omega) kac_int ⟨by show _ ≤ 20; omega, by show _ ≤ 100; omega⟩ dL_act_138 (fun q => ?_)
  have e5 : xAd ad (48 + (8 + S + T)) q (48 + 5) = ad (48 + 5) := if_neg (by omega)
  refine g_stk2 (congrArg Value.ref e5.symm) ?_
  refine g_ra X hZ (c_X4_more l D cy ((48 + (8 + S + T)) + 1) (xAd ad (48 + (8 + S + T)) q) (xCz (cW ad cy S T Ln) (48 + (8 + S + T)) (cy 0) 0) (xRo (wR S ρ ρ) (48 + (8 + S + T))) (48 + 5) (48 + (8 + S + T)) T 0 (fun i => 48 + (8 + S + i)) Ln (by omega) (by omega) (gAR_x (gSub_ar (off := 48) sub_S lS_ts (by omega) (fun i hi => by omega)) (by omega) (fun i hi => by omega)) (fun i hi => ⟨by omega, gAI_x (gSub_ai (off := 48) (ad := ad) sub_S lS_tu (by omega)) (by omega)⟩) gAI_n (by omega)) kl_L_24 ⟨rfl, rfl, Nat.le_of_ble_eq_true rfl, Nat.le_of_ble_eq_true rfl⟩ rfl rfl (Nat.le_of_ble_eq_true rfl) dL_act_140 ⟨by show _ ≤ 20; omega, by show _ ≤ 100; omega⟩ (fun a => ?_)
  have e48 : xAd (xAd ad (48 + (8 + S + T)) q) ((48 + (8 + S + T)) + 1) a 48 = ad 48 := by
    simp only [xAd]
    rw [if_neg (by omega), if_neg (by omega)]
  refine g_stk2 (congrArg Value.ref e48.symm) ?_
  refine g_toE ?_
  obtain ⟨E1, hE1⟩ : ∃ f : Nat → va_E, f = fun k => xEz (xCz (cW ad cy S T Ln) (48 + (8 + S + T)) (cy 0) 0) ((48 + (8 + S + T)) + 1) (.inl (cy 4, T + 1, rfs (fun j => if j < T then some (xAd ad (48 + (8 + S + T)) q (48 + (8 + S + j))) else some (xAd ad (48 + (8 + S + T)) q (48 + (8 + S + T)))))) k (xRo (wR S ρ ρ) (48 + (8 + S + T)) k) := ⟨_, rfl⟩
  have hB1 : ∀ k, k < (48 + (8 + S + T)) → E1 k = cW ad cy S T Ln k (wR S ρ ρ k) := fun k hk => by
    rw [hE1]
    show xEz _ _ _ k _ = _
    rw [xEz_ne (by omega)]
    simp only [xCz, xRo]
    rw [if_neg (by omega), if_neg (by omega)]
  rw [← hE1]
  have hE48 : E1 48 = .inr (4, [.int (ρ 0 7), .int (ρ 0 8), .int (ρ 0 9), .ref (ad 49), .ref (ad 50), .ref (ad 51), .ref (ad 52), .ref (ad 53), .ref (ad 54), .ref (ad 55)]) := (hB1 48 (by omega)).trans (cW_S (j := 0))
  refine gE_put X 48 (by omega) ku_X4 tyX4 tyX4_ok nmX4 (fs := [.int (ρ 0 7), .int (ρ 0 8), .int (ρ 0 9), .ref (ad 49), .ref (ad 50), .ref (ad 51), .ref (ad 52), .ref (ad 53), .ref (ad 54), .ref (ad 55)]) hE48 kv_X4 7 (by decide) kf_L_9 rfl (ty := .array (.array .int)) (by decide +kernel) rfl rfl (Nat.le_of_ble_eq_true rfl) dL_act_143 ?_
  obtain ⟨ad', had⟩ : ∃ f : Nat → Nat, f = fun k => if k = 53 then a else if k = (48 + (8 + S + T)) then q else ad k := ⟨_, rfl⟩
  obtain ⟨E2, hE2⟩ : ∃ f : Nat → va_E, f = uE E1 48 (.inr (4, ([.int (ρ 0 7), .int (ρ 0 8), .int (ρ 0 9), .ref (ad 49), .ref (ad 50), .ref (ad 51), .ref (ad 52), .ref (ad 53), .ref (ad 54), .ref (ad 55)] : List Value).set 7 (.ref a))) := ⟨_, rfl⟩
  rw [← hE2]
  obtain ⟨σ, hσ⟩ : ∃ f : gSt, f = up2 ρ 0 5 (nI (T + 1)) := ⟨_, rfl⟩
  obtain ⟨g, hg⟩ : ∃ f : Nat → Nat, f = fun k => if k = 53 then (48 + (8 + S + T)) + 1 else k := ⟨_, rfl⟩
  have hB : ∀ k, k ≠ 48 → k ≠ 53 → k < (48 + (8 + S + T)) → E2 k = cW ad cy S T Ln k (wR S ρ ρ k) := fun k h1 h2 hk => by
    rw [hE2]
    show (if k = 48 then _ else E1 k) = _
    rw [if_neg h1]
    exact hB1 k hk
  have aC : ∀ k, k < 49 → ad' k = ad k := fun k hk => by rw [had]; simp only []; grind
  have gC : ∀ k, k < 51 → g k = k := fun k hk => by rw [hg]; simp only []; grind
  have q2 : σ 2 = ρ 2 := by rw [hσ]; funext j; exact up2_k (by omega)
  have q3 : σ 3 = ρ 3 := by rw [hσ]; funext j; exact up2_k (by omega)
  have q4 : σ 4 = ρ 4 := by rw [hσ]; funext j; exact up2_k (by omega)
  have q5 : σ 5 = ρ 5 := by rw [hσ]; funext j; exact up2_k (by omega)
  have q13 : σ 13 = ρ 13 := by rw [hσ]; funext j; exact up2_k (by omega)
  have q7 : σ 0 7 = ρ 0 7 := by rw [hσ]; exact up2_j (by omega)
  have q8 : σ 0 8 = ρ 0 8 := by rw [hσ]; exact up2_j (by omega)
  have q9 : σ 0 9 = ρ 0 9 := by rw [hσ]; exact up2_j (by omega)
  have hsR : sR S σ = sR S ρ := sR_cg (fun j hj => by rw [hσ]; exact up2_j (by omega)) (fun k hk => by rw [hσ]; funext j; exact up2_k (by omega))
  have a49 : ad' 49 = ad 49 := by rw [had]; simp only []; grind
  have a50 : ad' 50 = ad 50 := by rw [had]; simp only []; grind
  have a51 : ad' 51 = ad 51 := by rw [had]; simp only []; grind
  have a52 : ad' 52 = ad 52 := by rw [had]; simp only []; grind
  have a54 : ad' 54 = ad 54 := by rw [had]; simp only []; grind
  have a55 : ad' 55 = ad 55 := by rw [had]; simp only []; grind
  have a53 : ad' 53 = a := by rw [had]; rfl
  have hAx : Inx σ (N + 1) (T + 1) S d ∧ Act ρ σ := by rw [hσ]; exact ax_bar hX (by omega) h6
  have hLn' : LnOK σ (T + 1) (fun t => if t = T then 0 else Ln t) := fun t ht => by
    show σ (14 + 3 * t) 2 = nI (if t = T then 0 else Ln t) ∧ (if t = T then 0 else Ln t) ≤ 16
    rw [hσ, up2_k (by omega)]
    by_cases h : t = T
    · rw [if_pos h]
      subst h
      exact ⟨g6 t (Nat.le_refl _) h6, by omega⟩
    · rw [if_neg h]
      exact hLn t (by omega)
  refine g_ren2 (n' := 48 + (8 + S + (T + 1))) (ad' := ad') (cz' := cW ad' cy S (T + 1) (fun t => if t = T then 0 else Ln t)) (ρ' := wR S ρ σ) g (relay (ad := ad) g (fun k hk => by rw [hg, had]; simp only [xAd]; grind) (fun k hk => by rw [gC k (by omega), hB k (by omega) (by omega) (by omega)]; exact cW_C hk) (fun k hk => aC k (by omega)) (by rw [gC 48 (by omega), hE2, q7, q8, q9, a49, a50, a51, a52, a53, a54, a55]; show (if 48 = 48 then _ else _) = _; rw [if_pos rfl]; rfl) ⟨sR S ρ 1, by rw [show g 49 = 49 by rw [hg]; simp only []; grind, hB 49 (by omega) (by omega) (by omega)]; exact cW_S (j := 1), fun j hj => by rw [q2]; rfl⟩ ⟨sR S ρ 2, by rw [show g 50 = 50 by rw [hg]; simp only []; grind, hB 50 (by omega) (by omega) (by omega)]; exact cW_S (j := 2), fun j hj => by rw [q3]; rfl⟩ ⟨sR S ρ 3, by rw [show g 51 = 51 by rw [hg]; simp only []; grind, hB 51 (by omega) (by omega) (by omega)]; exact cW_S (j := 3), fun j hj => by rw [q4]; rfl⟩ ⟨sR S ρ 4, by rw [show g 52 = 52 by rw [hg]; simp only []; grind, hB 52 (by omega) (by omega) (by omega)]; exact cW_S (j := 4), fun j hj => by rw [q5]; rfl⟩ (⟨fun j => if j < T then some (xAd ad (48 + (8 + S + T)) q (48 + (8 + S + j))) else some (xAd ad (48 + (8 + S + T)) q (48 + (8 + S + T))), by rw [show g 53 = (48 + (8 + S + T)) + 1 by rw [hg]; rfl, hE2]; show (if (48 + (8 + S + T)) + 1 = 48 then _ else E1 ((48 + (8 + S + T)) + 1)) = _; rw [if_neg (by omega), hE1]; exact xEz_at, fun i hi => by rw [had]; simp only [xAd]; grind⟩) (⟨fun i => some (aS ad (8 + i)), by rw [show g 54 = 54 by rw [hg]; simp only []; grind, hB 54 (by omega) (by omega) (by omega)]; exact cW_S (j := 6), fun i hi => by rw [had]; show some (ad (48 + (8 + i))) = _; simp only []; grind⟩) ⟨sR S ρ 7, by rw [show g 55 = 55 by rw [hg]; simp only []; grind, hB 55 (by omega) (by omega) (by omega)]; exact cW_S (j := 7), fun j hj => by rw [q13]; rfl⟩ (fun z hz => ⟨sR S ρ (8 + z), by rw [show g (56 + z) = 48 + (8 + z) by rw [hg]; simp only []; grind, hB (48 + (8 + z)) (by omega) (by omega) (by omega), cW_S]; exact lS_st hz _, fun j hj => by rw [hsR]⟩) (fun t ht => by
    by_cases h : t = T
    · subst h
      refine ⟨xRo (wR S ρ ρ) (48 + (8 + S + t)) (48 + (8 + S + t)), ?_, fun j hj => absurd hj (by simp)⟩
      rw [show g (56 + S + t) = 48 + (8 + S + t) by rw [hg]; simp only []; grind, hE2]
      show (if 48 + (8 + S + t) = 48 then _ else E1 (48 + (8 + S + t))) = _
      rw [if_neg (by omega), hE1]
      show xEz _ _ _ (48 + (8 + S + t)) _ = _
      rw [xEz_ne (by omega)]
      simp [xCz]
    · refine ⟨sR S ρ (8 + S + t), ?_, fun j hj => ?_⟩
      · rw [show g (56 + S + t) = 48 + (8 + S + t) by rw [hg]; simp only []; grind, hB (48 + (8 + S + t)) (by omega) (by omega) (by omega), cW_S, lS_tu]
        first | rw [if_neg h] | (simp only []; rw [if_neg h])
      · rw [rS_tu (by omega), hσ, up2_k (by omega)]) (by omega)) (fun i j hi hj h => by rw [hg] at h; simp only [] at h; grind) ?_
  refine g_eqv (ls' := [(0, .ref (ad' 0)), (1, .ref (ad' 48))]) ?_ (by rw [aC 0 (by omega), aC 48 (by omega)]) rfl rfl rfl
  refine g_F0 (fa := fun _ => 0) (fz := fun _ _ => .inr (0, [])) (φ := z0) ?_
  refine g_aload_n X dL_act_146 0 rfl rfl ?_
  refine g_yc (F := 0) X hE (gYI_1 (c_X3_barrel l hl0 D cy ad' ρ N T S d hI ) (bar_ok hT h6)) kl_L_28 ⟨rfl, rfl, Nat.le_of_ble_eq_true rfl, Nat.le_of_ble_eq_true rfl⟩ rfl rfl (Nat.le_of_ble_eq_true rfl) dL_act_147 ⟨by show _ ≤ 20; omega, by show _ ≤ 100; omega⟩ ?_
  refine g_aload_n X dL_act_150 1 rfl rfl ?_
  refine g_getr X (0 + 48 + 0) (by show 0 + 48 + 0 < 0 + (48 + (8 + S + (T + 1))); omega) 7 (by decide) ku_X4 kv_X4 kf_L_9 rfl (gSub_fr (off := 0 + 48) sub_FS lS_tunes (by omega) (by omega)) dL_act_151 ?_
  refine g_alen (t0 := 4) X (0 + 48 + 5) (by show 0 + 48 + 5 < 0 + (48 + (8 + S + (T + 1))); omega) (gAR.ln (gSub_ar (off := 0 + 48) (sub_FS (fa := fun _ => 0) (ad := ad')) lS_ts (by omega) (fun i hi => by omega))) rfl dL_act_154 ?_
  refine g_iconst X (v := 1) dL_act_155 (by decide) ?_
  refine g_isub X dL_act_156 ?_
  rw [show nI (T + 1) - 1 = nI T from pk_sub (a := T + 1) (b := 1) (by omega)]
  refine g_icmp_ne X 164 dL_act_157 (by decide) (fun c_1 => ?_) (fun c_1 => ?_)
  · exfalso; exact c_1 rfl
  · skip
    refine g_iconst X (v := 1) dL_act_160 (by decide) ?_
    refine g_goto X 165 dL_act_161 (by decide) ?_
    refine g_0F ?_
    rw [← hσ]
    exact g_acret X hr hlk (by omega) (by omega) dL_act_165 (aC 0 (by omega)) (aC 48 (by omega)) (Inx_up hAx.1 (by omega) hN) hLn' hAx.2

set_option maxHeartbeats 2000000 in
set_option maxRecDepth 100000 in
theorem act_cha (X : gX p m c cL_act 8 s args Ts RL D cy A) (hl0 : l.stackTraces = false) (hE : gEnv s A) (hZ : zAO s) (hr : meth.sig.returnType = some .boolean) (hlk : meth.locks = false) (hX : Inx ρ N T S d) (hLn : LnOK ρ T Ln) (hN : N + 5 ≤ 600)  : GW p l e { frames := 8, cells := 20, slots := 100, locals := 134 } s m args below meth c (MQ below (va_Qi (actP ad ρ N d) (actB D cy A) A) args s 20 100 A) 8 D A (48 + (8 + S + T)) ad (cW ad cy S T Ln) (wR S ρ ρ) 0 0 663 [(0, .ref (ad 0)), (1, .ref (ad 48))] [] := by
  obtain ⟨hT, hT6, hS, hS8, hd, hdN, hN6, hTu0, hSt, hPi, hZ9, hHd⟩ := id hX.1
  obtain ⟨_, g2, g3, ⟨c0, hc0, ec0⟩, g5, g6⟩ := id hX
  have hI := hX.1
  refine g_F0 (fa := fun _ => 0) (fz := fun _ _ => .inr (0, [])) (φ := z0) ?_
  refine g_aload_n X dL_act_663 1 rfl rfl ?_
  refine g_sc (F := 0) X (c_X4_crickets l D cy (aS ad) ρ S T Ln) kl_L_81 ⟨rfl, rfl, Nat.le_of_ble_eq_true rfl, Nat.le_of_ble_eq_true rfl⟩ rfl rfl (Nat.le_of_ble_eq_true rfl) dL_act_664 ⟨by show _ ≤ 20; omega, by show _ ≤ 100; omega⟩ ?_
  refine g_istore X [(6, .int _), (0, .ref _), (1, .ref _)] dL_act_667 (by decide) rfl ?_
  refine g_aload_n X dL_act_669 2 rfl rfl ?_
  refine g_bipush X (v := 12) dL_act_670 (by decide) ?_
  refine g_pushz X 1 rfl 12 (by decide) kac_bool ⟨by show _ ≤ 20; omega, by show _ ≤ 100; omega⟩ dL_act_672 (fun q_1 => ?_)
  obtain ⟨φ_2, sφ_2⟩ : ∃ φz, φz = xRo z0 0 := ⟨_, rfl⟩
  rw [← sφ_2]
  obtain ⟨E1, hE1⟩ : ∃ f : Nat → va_E, f = fun k => jF 1 (xCz (fun _ _ => .inr (0, [])) 0 (cy 1) 12) (cW ad cy S T Ln) k (jF 1 φ_2 (wR S ρ ρ) k) := ⟨_, rfl⟩
  have hB1 : ∀ k, k < (48 + (8 + S + T)) → E1 (1 + k) = cW ad cy S T Ln k (wR S ρ ρ k) := fun k hk => by rw [hE1]; simp only [jF_hi]
  refine g_stk2 (v' := .ref (jF 1 (xAd (fun _ => 0) 0 q_1) ad (1 + 48))) rfl ?_
  refine g_toE ?_
  rw [← hE1]
  have hE48 : E1 (1 + 48) = .inr (4, [.int (ρ 0 7), .int (ρ 0 8), .int (ρ 0 9), .ref (ad 49), .ref (ad 50), .ref (ad 51), .ref (ad 52), .ref (ad 53), .ref (ad 54), .ref (ad 55)]) := (hB1 48 (by omega)).trans (cW_S (j := 0))
  refine gE_put X (1 + 48) (by omega) ku_X4 tyX4 tyX4_ok nmX4 (fs := [.int (ρ 0 7), .int (ρ 0 8), .int (ρ 0 9), .ref (ad 49), .ref (ad 50), .ref (ad 51), .ref (ad 52), .ref (ad 53), .ref (ad 54), .ref (ad 55)]) hE48 kv_X4 5 (by decide) kf_L_84 rfl (ty := .array .boolean) (by decide +kernel) rfl rfl (Nat.le_of_ble_eq_true rfl) dL_act_674 ?_
  obtain ⟨ad', had⟩ : ∃ f : Nat → Nat, f = fun k => if k = 51 then q_1 else ad k := ⟨_, rfl⟩
  obtain ⟨E2, hE2⟩ : ∃ f : Nat → va_E, f = uE E1 (1 + 48) (.inr (4, ([.int (ρ 0 7), .int (ρ 0 8), .int (ρ 0 9), .ref (ad 49), .ref (ad 50), .ref (ad 51), .ref (ad 52), .ref (ad 53), .ref (ad 54), .ref (ad 55)] : List Value).set 5 (.ref q_1))) := ⟨_, rfl⟩
  rw [← hE2]
  obtain ⟨σ, hσ⟩ : ∃ f : gSt, f = clrR ρ 1 12 := ⟨_, rfl⟩
  obtain ⟨g, hg⟩ : ∃ f : Nat → Nat, f = fun k => if k = 51 then 0 else 1 + k := ⟨_, rfl⟩
  have hB : ∀ k, k ≠ 48 → k ≠ 53 → k < (48 + (8 + S + T)) → E2 (1 + k) = cW ad cy S T Ln k (wR S ρ ρ k) := fun k h1 h2 hk => by
    rw [hE2]
    show (if 1 + k = 1 + 48 then _ else E1 (1 + k)) = _
    rw [if_neg (by omega)]
    exact hB1 k hk
  have hB53 : E2 (1 + 53) = cW ad cy S T Ln 53 (wR S ρ ρ 53) := by
    rw [hE2]
    show (if 1 + 53 = 1 + 48 then _ else E1 (1 + 53)) = _
    rw [if_neg (by omega)]
    exact hB1 53 (by omega)
  have aC : ∀ k, k < 49 → ad' k = ad k := fun k hk => by rw [had]; simp only []; grind
  have gC : ∀ k, k < 51 → g k = 1 + k := fun k hk => by rw [hg]; simp only []; grind
  have q2 : σ 2 = ρ 2 := by rw [hσ]; funext j; unfold clrR; rw [if_neg (by omega)]
  have q3 : σ 3 = ρ 3 := by rw [hσ]; funext j; unfold clrR; rw [if_neg (by omega)]
  have q5 : σ 5 = ρ 5 := by rw [hσ]; funext j; unfold clrR; rw [if_neg (by omega)]
  have q13 : σ 13 = ρ 13 := by rw [hσ]; funext j; unfold clrR; rw [if_neg (by omega)]
  have q7 : σ 0 7 = ρ 0 7 := by rw [hσ]; unfold clrR; rw [if_neg (by omega)]
  have q8 : σ 0 8 = ρ 0 8 := by rw [hσ]; unfold clrR; rw [if_neg (by omega)]
  have q9 : σ 0 9 = ρ 0 9 := by rw [hσ]; unfold clrR; rw [if_neg (by omega)]
  have hsT : ∀ k, 6 < k → σ k = ρ k := fun k hk => by rw [hσ]; funext j; unfold clrR; rw [if_neg (by omega)]
  have qt : ∀ t, t < 6 → σ (15 + 3 * t) = ρ (15 + 3 * t) := fun t ht => hsT _ (by omega)
  have a49 : ad' 49 = ad 49 := by rw [had]; simp only []; grind
  have a50 : ad' 50 = ad 50 := by rw [had]; simp only []; grind
  have a52 : ad' 52 = ad 52 := by rw [had]; simp only []; grind
  have a53 : ad' 53 = ad 53 := by rw [had]; simp only []; grind
  have a54 : ad' 54 = ad 54 := by rw [had]; simp only []; grind
  have a55 : ad' 55 = ad 55 := by rw [had]; simp only []; grind
  have a51 : ad' 51 = q_1 := by rw [had]; rfl
  have hAx : Inx σ (N + 1) T S d ∧ Act ρ σ := by rw [hσ]; exact ax_cha hX (by omega)
  have hLn' : LnOK σ T Ln := fun t ht => by rw [hsT _ (by omega)]; exact hLn t ht
  refine g_ren2 (n' := 48 + (8 + S + T)) (ad' := ad') (cz' := cW ad' cy S T Ln) (ρ' := wR S ρ σ) g (relay (ad := ad) g (fun k hk => by rw [hg, had]; simp only [xAd, jF]; grind) (fun k hk => by rw [gC k (by omega), hB k (by omega) (by omega) (by omega)]; exact cW_C hk) (fun k hk => aC k (by omega)) (by rw [gC 48 (by omega), hE2, q7, q8, q9, a49, a50, a51, a52, a53, a54, a55]; show (if 1 + 48 = 1 + 48 then _ else _) = _; rw [if_pos rfl]; rfl) ⟨sR S ρ 1, by rw [show g 49 = 1 + 49 by rw [hg]; simp only []; grind, hB 49 (by omega) (by omega) (by omega)]; exact cW_S (j := 1), fun j hj => by rw [q2]; rfl⟩ ⟨sR S ρ 2, by rw [show g 50 = 1 + 50 by rw [hg]; simp only []; grind, hB 50 (by omega) (by omega) (by omega)]; exact cW_S (j := 2), fun j hj => by rw [q3]; rfl⟩ ⟨φ_2 0, by rw [show g 51 = 0 by rw [hg]; rfl, hE2]; show (if 0 = 1 + 48 then _ else E1 0) = _; rw [if_neg (by omega), hE1]; rfl, fun j hj => by rw [sφ_2, hσ]; unfold clrR; rw [if_pos ⟨rfl, hj⟩]; rfl⟩ ⟨sR S ρ 4, by rw [show g 52 = 1 + 52 by rw [hg]; simp only []; grind, hB 52 (by omega) (by omega) (by omega)]; exact cW_S (j := 4), fun j hj => by rw [q5]; rfl⟩ (⟨fun i => some (aS ad (8 + S + i)), by rw [show g 53 = 1 + 53 by rw [hg]; simp only []; grind, hB53]; exact cW_S (j := 5), fun i hi => by rw [had]; show some (ad (48 + (8 + S + i))) = _; simp only []; grind⟩) (⟨fun i => some (aS ad (8 + i)), by rw [show g 54 = 1 + 54 by rw [hg]; simp only []; grind, hB 54 (by omega) (by omega) (by omega)]; exact cW_S (j := 6), fun i hi => by rw [had]; show some (ad (48 + (8 + i))) = _; simp only []; grind⟩) ⟨sR S ρ 7, by rw [show g 55 = 1 + 55 by rw [hg]; simp only []; grind, hB 55 (by omega) (by omega) (by omega)]; exact cW_S (j := 7), fun j hj => by rw [q13]; rfl⟩ (fun z hz => ⟨sR S ρ (8 + z), by rw [show g (56 + z) = 1 + (48 + (8 + z)) by rw [hg]; simp only []; grind, hB (48 + (8 + z)) (by omega) (by omega) (by omega), cW_S]; exact lS_st hz _, fun j hj => by rw [rS_st hz, rS_st hz, hsT (32 + 2 * z) (by omega), hsT (33 + 2 * z) (by omega)]⟩) (fun t ht => ⟨sR S ρ (8 + S + t), by rw [show g (56 + S + t) = 1 + (48 + (8 + S + t)) by rw [hg]; simp only []; grind, hB (48 + (8 + S + t)) (by omega) (by omega) (by omega), cW_S, lS_tu], fun j hj => by rw [rS_tu (by omega)]; rw [qt t (by omega)]⟩) (by omega)) (fun i j hi hj h => by rw [hg] at h; simp only [] at h; grind) ?_
  refine g_eqv (ls' := [(6, .int (crc ρ 1)), (0, .ref (ad' 0)), (1, .ref (ad' 48))]) ?_ (by rw [aC 0 (by omega), aC 48 (by omega)]) rfl rfl rfl
  refine g_F0 (fa := fun _ => 0) (fz := fun _ _ => .inr (0, [])) (φ := z0) ?_
  refine g_aload_n X dL_act_677 1 rfl rfl ?_
  refine g_yc (F := 0) X hE (gYI_M (c_X3_chase l D cy ad' ρ) (fun r ρ1 h => h)) kl_L_88 ⟨rfl, rfl, Nat.le_of_ble_eq_true rfl, Nat.le_of_ble_eq_true rfl⟩ rfl rfl (Nat.le_of_ble_eq_true rfl) dL_act_678 ⟨by show _ ≤ 20; omega, by show _ ≤ 100; omega⟩ ?_
  refine g_iload X dL_act_681 0 rfl ?_
  refine g_icmp_ne X 690 dL_act_683 (by decide) (fun c_1 => ?_) (fun c_1 => ?_)
  · exfalso; exact c_1 rfl
  · skip
    refine g_iconst X (v := 1) dL_act_686 (by decide) ?_
    refine g_goto X 691 dL_act_687 (by decide) ?_
    refine g_0F ?_
    rw [← hσ]
    exact g_acret X hr hlk (by omega) (by omega) dL_act_691 (aC 0 (by omega)) (aC 48 (by omega)) (Inx_up hAx.1 (by omega) hN) hLn' hAx.2

set_option maxHeartbeats 2000000 in
set_option maxRecDepth 100000 in
theorem act_str (X : gX p m c cL_act 8 s args Ts RL D cy A) (hl0 : l.stackTraces = false) (hE : gEnv s A) (hZ : zAO s) (hr : meth.sig.returnType = some .boolean) (hlk : meth.locks = false) (hX : Inx ρ N T S d) (hLn : LnOK ρ T Ln) (hN : N + 5 ≤ 600) (h8 : S < 8) : GW p l e { frames := 8, cells := 20, slots := 100, locals := 134 } s m args below meth c (MQ below (va_Qi (actP ad ρ N d) (actB D cy A) A) args s 20 100 A) 8 D A (48 + (8 + S + T)) ad (cW ad cy S T Ln) (wR S ρ ρ) 0 0 281 [(0, .ref (ad 0)), (1, .ref (ad 48)), (2, .int x)] [] := by
  obtain ⟨hT, hT6, hS, hS8, hd, hdN, hN6, hTu0, hSt, hPi, hZ9, hHd⟩ := id hX.1
  obtain ⟨_, g2, g3, ⟨c0, hc0, ec0⟩, g5, g6⟩ := id hX
  have hI := hX.1
  refine g_F0 (fa := fun _ => 0) (fz := fun _ _ => .inr (0, [])) (φ := z0) ?_
  refine g_bipush X (v := 9) dL_act_281 (by decide) ?_
  refine g_pushi X 1 rfl 9 (by decide) kac_int ⟨by show _ ≤ 20; omega, by show _ ≤ 100; omega⟩ dL_act_283 (fun q_1 => ?_)
  obtain ⟨φ_2, sφ_2⟩ : ∃ φz, φz = xRo z0 0 := ⟨_, rfl⟩
  rw [← sφ_2]
  refine g_dup X dL_act_285 rfl ?_
  refine g_iconst X (v := 0) dL_act_286 (by decide) ?_
  refine g_iload_n X dL_act_287 2 rfl rfl ?_
  refine g_iconst X (v := 4) dL_act_288 (by decide) ?_
  refine g_ishr X dL_act_289 ?_
  refine g_bipush X (v := 91) dL_act_290 (by decide) ?_
  refine g_below X 91 (by omega) (by omega) kl_L_15 ⟨Nat.le_of_ble_eq_true rfl, Nat.le_of_ble_eq_true rfl⟩ (Nat.le_of_ble_eq_true rfl) dL_act_292 ⟨by show _ ≤ 20; omega, by show _ ≤ 100; omega⟩ (fun u0 hu0 => ?_)
  have hu : u0 ≤ 90 := by omega
  refine g_iastN X 0 0 (by show 0 < 1 + (48 + (8 + S + T)); omega) (jF_ai gAI_n (by decide)) (by omega) (by omega) dL_act_295 (fun ρ_3 eρ_3 => ?_)
  obtain ⟨φ_4, sφ_4, rfl⟩ := wFl eρ_3 (show 0 < 1 by decide)
  refine g_dup X dL_act_296 rfl ?_
  refine g_iconst X (v := 1) dL_act_297 (by decide) ?_
  refine g_joinP 320 (fun v9 : Int32 => ∃ w : Nat, w ≤ 127 ∧ v9 = nI w) (fun kj_5 => ?_) (fun v9 hv9 => ?_)
  · skip
    refine g_iload_n X dL_act_298 2 rfl rfl ?_
    refine g_bipush X (v := 6) dL_act_299 (by decide) ?_
    refine g_ishr X dL_act_301 ?_
    refine g_iconst X (v := 3) dL_act_302 (by decide) ?_
    refine g_below X 3 (by omega) (by omega) kl_L_15 ⟨Nat.le_of_ble_eq_true rfl, Nat.le_of_ble_eq_true rfl⟩ (Nat.le_of_ble_eq_true rfl) dL_act_303 ⟨by show _ ≤ 20; omega, by show _ ≤ 100; omega⟩ (fun k_6 hk_6 => ?_)
    refine g_if_ne X 318 dL_act_306 (by decide) (fun c_7 => ?_) (fun c_7 => ?_)
    · skip
      refine g_bipush X (v := 127) dL_act_318 (by decide) ?_
      exact kj_5 _ (⟨127, by omega, rfl⟩)
    · skip
      have hw9 := and127 (x >>> (5 &&& 31))
      refine g_iload_n X dL_act_309 2 rfl rfl ?_
      refine g_iconst X (v := 5) dL_act_310 (by decide) ?_
      refine g_ishr X dL_act_311 ?_
      refine g_bipush X (v := 127) dL_act_312 (by decide) ?_
      refine g_iand X dL_act_314 ?_
      refine g_goto X 320 dL_act_315 (by decide) ?_
      exact kj_5 _ (hw9)
  obtain ⟨w, hw, rfl⟩ := hv9
  refine g_iastN X 0 1 (by show 0 < 1 + (48 + (8 + S + T)); omega) (jF_ai gAI_n (by decide)) (by omega) (by omega) dL_act_320 (fun ρ_8 eρ_8 => ?_)
  obtain ⟨φ_9, sφ_9, rfl⟩ := wFl eρ_8 (show 0 < 1 by decide)
  refine g_dup X dL_act_321 rfl ?_
  refine g_iconst X (v := 2) dL_act_322 (by decide) ?_
  refine g_iconst X (v := 0) dL_act_323 (by decide) ?_
  refine g_iastN X 0 2 (by show 0 < 1 + (48 + (8 + S + T)); omega) (jF_ai gAI_n (by decide)) (by omega) (by omega) dL_act_324 (fun ρ_10 eρ_10 => ?_)
  obtain ⟨φ_11, sφ_11, rfl⟩ := wFl eρ_10 (show 0 < 1 by decide)
  refine g_dup X dL_act_325 rfl ?_
  refine g_iconst X (v := 3) dL_act_326 (by decide) ?_
  refine g_iconst X (v := 0) dL_act_327 (by decide) ?_
  refine g_iastN X 0 3 (by show 0 < 1 + (48 + (8 + S + T)); omega) (jF_ai gAI_n (by decide)) (by omega) (by omega) dL_act_328 (fun ρ_12 eρ_12 => ?_)
  obtain ⟨φ_13, sφ_13, rfl⟩ := wFl eρ_12 (show 0 < 1 by decide)
  refine g_dup X dL_act_329 rfl ?_
  refine g_iconst X (v := 4) dL_act_330 (by decide) ?_
  refine g_iconst X (v := 0) dL_act_331 (by decide) ?_
  refine g_iastN X 0 4 (by show 0 < 1 + (48 + (8 + S + T)); omega) (jF_ai gAI_n (by decide)) (by omega) (by omega) dL_act_332 (fun ρ_14 eρ_14 => ?_)
  obtain ⟨φ_15, sφ_15, rfl⟩ := wFl eρ_14 (show 0 < 1 by decide)
  refine g_dup X dL_act_333 rfl ?_
  refine g_iconst X (v := 5) dL_act_334 (by decide) ?_
  refine g_iconst X (v := 0) dL_act_335 (by decide) ?_
  refine g_iastN X 0 5 (by show 0 < 1 + (48 + (8 + S + T)); omega) (jF_ai gAI_n (by decide)) (by omega) (by omega) dL_act_336 (fun ρ_16 eρ_16 => ?_)
  obtain ⟨φ_17, sφ_17, rfl⟩ := wFl eρ_16 (show 0 < 1 by decide)
  refine g_dup X dL_act_337 rfl ?_
  refine g_bipush X (v := 6) dL_act_338 (by decide) ?_
  refine g_iconst X (v := 0) dL_act_340 (by decide) ?_
  refine g_iastN X 0 6 (by show 0 < 1 + (48 + (8 + S + T)); omega) (jF_ai gAI_n (by decide)) (by omega) (by omega) dL_act_341 (fun ρ_18 eρ_18 => ?_)
  obtain ⟨φ_19, sφ_19, rfl⟩ := wFl eρ_18 (show 0 < 1 by decide)
  refine g_dup X dL_act_342 rfl ?_
  refine g_bipush X (v := 7) dL_act_343 (by decide) ?_
  refine g_iconst X (v := 0) dL_act_345 (by decide) ?_
  refine g_iastN X 0 7 (by show 0 < 1 + (48 + (8 + S + T)); omega) (jF_ai gAI_n (by decide)) (by omega) (by omega) dL_act_346 (fun ρ_20 eρ_20 => ?_)
  obtain ⟨φ_21, sφ_21, rfl⟩ := wFl eρ_20 (show 0 < 1 by decide)
  refine g_dup X dL_act_347 rfl ?_
  refine g_bipush X (v := 8) dL_act_348 (by decide) ?_
  refine g_iconst X (v := 0) dL_act_350 (by decide) ?_
  refine g_iastN X 0 8 (by show 0 < 1 + (48 + (8 + S + T)); omega) (jF_ai gAI_n (by decide)) (by omega) (by omega) dL_act_351 (fun ρ_22 eρ_22 => ?_)
  obtain ⟨φ_23, sφ_23, rfl⟩ := wFl eρ_22 (show 0 < 1 by decide)
  refine g_astore X [(6, .ref _), (0, .ref _), (1, .ref _), (2, .int _)] dL_act_352 (by decide) rfl ?_
  refine g_aload_n X dL_act_354 2 rfl rfl ?_
  refine g_aload_n X dL_act_355 2 rfl rfl ?_
  refine g_getr X (1 + 48 + 0) (by show 1 + 48 + 0 < 1 + (48 + (8 + S + T)); omega) 8 (by decide) ku_X4 kv_X4 kf_L_21 rfl (gSub_fr (off := 1 + 48) sub_FS lS_streets (by omega) (by omega)) dL_act_356 ?_
  refine g_aload X dL_act_359 0 rfl ?_
  refine g_stk (v' := .ref ((jF 1 (xAd (fun _ => 0) 0 q_1) ad) 0)) rfl ?_
  refine g_stk2 (v' := .ref ((jF 1 (xAd (fun _ => 0) 0 q_1) ad) (1 + 48 + 6))) rfl ?_
  refine g_ra X hZ (c_X4_more l D cy (1 + (48 + (8 + S + T))) (jF 1 (xAd (fun _ => 0) 0 q_1) ad) (jF 1 (xCz (fun _ _ => .inr (0, [])) 0 (cy 0) 9) (cW ad cy S T Ln)) (jF 1 φ_23 (wR S ρ ρ)) (1 + 48 + 6) 0 S 9 (fun i => 1 + 48 + (8 + i)) (fun _ => 9) (by omega) (by omega) (gSub_ar (off := 1 + 48) sub_FS lS_ss (by omega) (fun i hi => by omega)) (fun i hi => ⟨by omega, gSub_ai (off := 1 + 48) (sub_FS (fa := fun _ => 0) (ad := ad)) (lS_st hi) (by omega)⟩) (jF_ai gAI_n (by decide)) (by omega)) kl_L_24 ⟨rfl, rfl, Nat.le_of_ble_eq_true rfl, Nat.le_of_ble_eq_true rfl⟩ rfl rfl (Nat.le_of_ble_eq_true rfl) dL_act_361 ⟨by show _ ≤ 20; omega, by show _ ≤ 100; omega⟩ (fun a => ?_)
  have e48 : xAd (jF 1 (xAd (fun _ => 0) 0 q_1) ad) (1 + (48 + (8 + S + T))) a (1 + 48) = ad 48 := by
    simp only [xAd]
    rw [if_neg (by omega)]
    rfl
  refine g_stk2 (congrArg Value.ref e48.symm) ?_
  refine g_toE ?_
  obtain ⟨E1, hE1⟩ : ∃ f : Nat → va_E, f = fun k => xEz (jF 1 (xCz (fun _ _ => .inr (0, [])) 0 (cy 0) 9) (cW ad cy S T Ln)) (1 + (48 + (8 + S + T))) (.inl (cy 4, S + 1, rfs (fun j => if j < S then some ((jF 1 (xAd (fun _ => 0) 0 q_1) ad) (1 + 48 + (8 + j))) else some ((jF 1 (xAd (fun _ => 0) 0 q_1) ad) 0)))) k ((jF 1 φ_23 (wR S ρ ρ)) k) := ⟨_, rfl⟩
  rw [← hE1]
  have hB1 : ∀ k, k < (48 + (8 + S + T)) → E1 (1 + k) = cW ad cy S T Ln k (wR S ρ ρ k) := fun k hk => by
    rw [hE1]
    show xEz _ _ _ (1 + k) _ = _
    rw [xEz_ne (by omega), jF_hi, jF_hi]
  have hE48 : E1 (1 + 48) = .inr (4, [.int (ρ 0 7), .int (ρ 0 8), .int (ρ 0 9), .ref (ad 49), .ref (ad 50), .ref (ad 51), .ref (ad 52), .ref (ad 53), .ref (ad 54), .ref (ad 55)]) := (hB1 48 (by omega)).trans (cW_S (j := 0))
  refine gE_put X (1 + 48) (by omega) ku_X4 tyX4 tyX4_ok nmX4 (fs := [.int (ρ 0 7), .int (ρ 0 8), .int (ρ 0 9), .ref (ad 49), .ref (ad 50), .ref (ad 51), .ref (ad 52), .ref (ad 53), .ref (ad 54), .ref (ad 55)]) hE48 kv_X4 8 (by decide) kf_L_21 rfl (ty := .array (.array .int)) (by decide +kernel) rfl rfl (Nat.le_of_ble_eq_true rfl) dL_act_364 ?_
  obtain ⟨ad', had⟩ : ∃ f : Nat → Nat, f = fun k => if k = 54 then a else if k < 56 + S then ad k else if k = 56 + S then q_1 else ad (k - 1) := ⟨_, rfl⟩
  obtain ⟨E2, hE2⟩ : ∃ f : Nat → va_E, f = uE E1 (1 + 48) (.inr (4, ([.int (ρ 0 7), .int (ρ 0 8), .int (ρ 0 9), .ref (ad 49), .ref (ad 50), .ref (ad 51), .ref (ad 52), .ref (ad 53), .ref (ad 54), .ref (ad 55)] : List Value).set 8 (.ref a))) := ⟨_, rfl⟩
  rw [← hE2]
  obtain ⟨σ, hσ⟩ : ∃ f : gSt, f = strR ρ S u0 w := ⟨_, rfl⟩
  obtain ⟨g, hg⟩ : ∃ f : Nat → Nat, f = fun k => if k = 54 then (1 + (48 + (8 + S + T))) else if k < 56 + S then 1 + k else if k = 56 + S then 0 else k := ⟨_, rfl⟩
  have hB : ∀ k, k ≠ 48 → k ≠ 53 → k < (48 + (8 + S + T)) → E2 (1 + k) = cW ad cy S T Ln k (wR S ρ ρ k) := fun k h1 h2 hk => by
    rw [hE2]
    show (if 1 + k = 1 + 48 then _ else E1 (1 + k)) = _
    rw [if_neg (by omega)]
    exact hB1 k hk
  have hB53 : E2 (1 + 53) = cW ad cy S T Ln 53 (wR S ρ ρ 53) := by
    rw [hE2]
    show (if 1 + 53 = 1 + 48 then _ else E1 (1 + 53)) = _
    rw [if_neg (by omega)]
    exact hB1 53 (by omega)
  have aC : ∀ k, k < 49 → ad' k = ad k := fun k hk => by rw [had]; simp only []; grind
  have gC : ∀ k, k < 51 → g k = 1 + k := fun k hk => by rw [hg]; simp only []; grind
  have hso : ∀ k, k ≠ 0 → k ≠ 32 + 2 * S → σ k = ρ k := fun k h1 h2 => by rw [hσ]; funext j; unfold strR; rw [up2_k h1, up2_k h2, up2_k h2]
  have hs0 : ∀ j, j ≠ 6 → σ 0 j = ρ 0 j := fun j hj => by rw [hσ]; unfold strR; rw [up2_j hj, up2_k (by omega), up2_k (by omega)]
  have q2 : σ 2 = ρ 2 := hso 2 (by omega) (by omega)
  have q3 : σ 3 = ρ 3 := hso 3 (by omega) (by omega)
  have q4 : σ 4 = ρ 4 := hso 4 (by omega) (by omega)
  have q5 : σ 5 = ρ 5 := hso 5 (by omega) (by omega)
  have q13 : σ 13 = ρ 13 := hso 13 (by omega) (by omega)
  have q7 : σ 0 7 = ρ 0 7 := hs0 7 (by omega)
  have q8 : σ 0 8 = ρ 0 8 := hs0 8 (by omega)
  have q9 : σ 0 9 = ρ 0 9 := hs0 9 (by omega)
  have qt : ∀ t, t < 6 → σ (15 + 3 * t) = ρ (15 + 3 * t) := fun t ht => hso _ (by omega) (by omega)
  have v1 : σ (32 + 2 * S) 1 = nI u0 := by rw [hσ]; unfold strR; rw [up2_k (by omega), up2_j (by omega), up2_s]
  have v2 : σ (32 + 2 * S) 2 = nI w := by rw [hσ]; unfold strR; rw [up2_k (by omega), up2_s]
  have v3 : σ (32 + 2 * S) 3 = 0 := by rw [hσ]; unfold strR; rw [up2_k (by omega), up2_j (by omega), up2_j (by omega)]; exact g5 S (Nat.le_refl _) h8
  have v4 : ∀ j, j < 6 → σ (33 + 2 * S) j = 0 := fun j hj => by rw [hso _ (by omega) (by omega)]; exact hZ9 S (Nat.le_refl _) h8 j hj
  have a49 : ad' 49 = ad 49 := by rw [had]; simp only []; grind
  have a50 : ad' 50 = ad 50 := by rw [had]; simp only []; grind
  have a51 : ad' 51 = ad 51 := by rw [had]; simp only []; grind
  have a52 : ad' 52 = ad 52 := by rw [had]; simp only []; grind
  have a53 : ad' 53 = ad 53 := by rw [had]; simp only []; grind
  have a55 : ad' 55 = ad 55 := by rw [had]; simp only []; grind
  have a54 : ad' 54 = a := by rw [had]; rfl
  have hAx : Inx σ (N + 1) T (S + 1) d ∧ Act ρ σ := by rw [hσ]; exact ax_str hX (by omega) h8 hu hw
  have hLn' : LnOK σ T Ln := fun t ht => by rw [hso _ (by omega) (by omega)]; exact hLn t ht
  refine g_ren2 (n' := 48 + (8 + (S + 1) + T)) (ad' := ad') (cz' := cW ad' cy (S + 1) T Ln) (ρ' := wR (S + 1) ρ σ) g (relay (ad := ad) g (fun k hk => by rw [hg, had]; simp only [xAd, jF]; grind) (fun k hk => by rw [gC k (by omega), hB k (by omega) (by omega) (by omega)]; exact cW_C hk) (fun k hk => aC k (by omega)) (by rw [gC 48 (by omega), hE2, q7, q8, q9, a49, a50, a51, a52, a53, a54, a55]; show (if 1 + 48 = 1 + 48 then _ else _) = _; rw [if_pos rfl]; rfl) ⟨sR S ρ 1, by rw [show g 49 = 1 + 49 by rw [hg]; simp only []; grind, hB 49 (by omega) (by omega) (by omega)]; exact cW_S (j := 1), fun j hj => by rw [q2]; rfl⟩ ⟨sR S ρ 2, by rw [show g 50 = 1 + 50 by rw [hg]; simp only []; grind, hB 50 (by omega) (by omega) (by omega)]; exact cW_S (j := 2), fun j hj => by rw [q3]; rfl⟩ ⟨sR S ρ 3, by rw [show g 51 = 1 + 51 by rw [hg]; simp only []; grind, hB 51 (by omega) (by omega) (by omega)]; exact cW_S (j := 3), fun j hj => by rw [q4]; rfl⟩ ⟨sR S ρ 4, by rw [show g 52 = 1 + 52 by rw [hg]; simp only []; grind, hB 52 (by omega) (by omega) (by omega)]; exact cW_S (j := 4), fun j hj => by rw [q5]; rfl⟩ (⟨fun i => some (aS ad (8 + S + i)), by rw [show g 53 = 1 + 53 by rw [hg]; simp only []; grind, hB53]; exact cW_S (j := 5), fun i hi => by rw [had]; show some (ad (48 + (8 + S + i))) = _; simp only []; grind⟩) (⟨fun j => if j < S then some ((jF 1 (xAd (fun _ => 0) 0 q_1) ad) (1 + 48 + (8 + j))) else some ((jF 1 (xAd (fun _ => 0) 0 q_1) ad) 0), by rw [show g 54 = (1 + (48 + (8 + S + T))) by rw [hg]; rfl, hE2]; show (if (1 + (48 + (8 + S + T))) = 1 + 48 then _ else E1 (1 + (48 + (8 + S + T)))) = _; rw [if_neg (by omega), hE1]; exact xEz_at, fun i hi => by
    rw [had]
    show (if i < S then some ((jF 1 (xAd (fun _ => 0) 0 q_1) ad) (1 + 48 + (8 + i))) else some q_1) = _
    rw [jF_48]
    simp only []
    grind⟩) ⟨sR S ρ 7, by rw [show g 55 = 1 + 55 by rw [hg]; simp only []; grind, hB 55 (by omega) (by omega) (by omega)]; exact cW_S (j := 7), fun j hj => by rw [q13]; rfl⟩ (fun z hz => by
    by_cases h : z = S
    · subst h
      refine ⟨φ_23 0, by rw [show g (56 + z) = 0 by rw [hg]; simp only []; grind, hE2]; show (if 0 = 1 + 48 then _ else E1 0) = _; rw [if_neg (by omega), hE1]; show xEz _ _ _ 0 _ = _; rw [xEz_ne (by omega)]; rfl, fun j hj => ?_⟩
      rw [rS_st (by omega), v1, v2, v3]
      by_cases hj3 : j < 3
      · rcases (show j = 0 ∨ j = 1 ∨ j = 2 by omega) with rfl | rfl | rfl
        all_goals (rw [sφ_23, sφ_21, sφ_19, sφ_17, sφ_15, sφ_13, sφ_11, sφ_9, sφ_4]; simp [up2_e])
      · rw [if_neg (by omega), if_neg (by omega), if_neg (by omega), v4 (j - 3) (by omega), sφ_23, sφ_21, sφ_19, sφ_17, sφ_15, sφ_13, sφ_11, sφ_9, sφ_4, sφ_2]
        simp only [up2_e, xRo]
        grind
    · refine ⟨sR S ρ (8 + z), by rw [show g (56 + z) = 1 + (48 + (8 + z)) by rw [hg]; simp only []; grind, hB (48 + (8 + z)) (by omega) (by omega) (by omega), cW_S]; exact lS_st (by omega) _, fun j hj => ?_⟩
      rw [rS_st (by omega), rS_st (by omega), hso (32 + 2 * z) (by omega) (by omega), hso (33 + 2 * z) (by omega) (by omega)]) (fun t ht => ⟨sR S ρ (8 + S + t), by rw [show g (56 + (S + 1) + t) = 1 + (48 + (8 + S + t)) by rw [hg]; simp only []; grind, hB (48 + (8 + S + t)) (by omega) (by omega) (by omega), cW_S, lS_tu], fun j hj => by rw [rS_tu (by omega)]; rw [qt t (by omega)]⟩) (by omega)) (fun i j hi hj h => by rw [hg] at h; simp only [] at h; grind) ?_
  have aQ : ad' (48 + (8 + S)) = q_1 := by rw [had]; simp only []; grind
  refine g_eqv (ls' := [(6, .ref (ad' (48 + (8 + S)))), (0, .ref (ad' 0)), (1, .ref (ad' 48)), (2, .int x)]) ?_ (by rw [aC 0 (by omega), aC 48 (by omega), aQ]) rfl rfl rfl
  refine g_F0 (fa := fun _ => 0) (fz := fun _ _ => .inr (0, [])) (φ := z0) ?_
  refine g_aload_n X dL_act_367 1 rfl rfl ?_
  refine g_aload X dL_act_368 0 rfl ?_
  refine g_iconst X (v := 0) dL_act_370 (by decide) ?_
  refine g_ialdS (F := 0) X (8 + S) 0 (lS_st (by omega)) (by omega) (by omega) (by decide) dL_act_371 ?_
  rw [rF, rS_s0 (by omega)]
  rw [v1]
  refine g_aload X dL_act_372 0 rfl ?_
  refine g_iconst X (v := 1) dL_act_374 (by decide) ?_
  refine g_ialdS (F := 0) X (8 + S) 1 (lS_st (by omega)) (by omega) (by omega) (by decide) dL_act_375 ?_
  rw [rF, rS_s1 (by omega)]
  rw [v2]
  refine g_yc (F := 0) X hE (gYI_2 (c_X3_street l hl0 D cy ad' ρ N T S d hI (nI u0) (nI w)) (str_ok hS h8 hu hw)) kl_L_43 ⟨rfl, rfl, Nat.le_of_ble_eq_true rfl, Nat.le_of_ble_eq_true rfl⟩ rfl rfl (Nat.le_of_ble_eq_true rfl) dL_act_376 ⟨by show _ ≤ 20; omega, by show _ ≤ 100; omega⟩ ?_
  refine g_aload_n X dL_act_379 2 rfl rfl ?_
  refine g_getr X (0 + 48 + 0) (by show 0 + 48 + 0 < 0 + (48 + (8 + (S + 1) + T)); omega) 8 (by decide) ku_X4 kv_X4 kf_L_21 rfl (gSub_fr (off := 0 + 48) sub_FS lS_streets (by omega) (by omega)) dL_act_380 ?_
  refine g_alen (t0 := 4) X (0 + 48 + 6) (by show 0 + 48 + 6 < 0 + (48 + (8 + (S + 1) + T)); omega) (gAR.ln (gSub_ar (off := 0 + 48) (sub_FS (fa := fun _ => 0) (ad := ad')) lS_ss (by omega) (fun i hi => by omega))) rfl dL_act_383 ?_
  refine g_iconst X (v := 1) dL_act_384 (by decide) ?_
  refine g_isub X dL_act_385 ?_
  rw [show nI (S + 1) - 1 = nI S from pk_sub (a := S + 1) (b := 1) (by omega)]
  refine g_icmp_ne X 393 dL_act_386 (by decide) (fun c_1 => ?_) (fun c_1 => ?_)
  · exfalso; exact c_1 rfl
  · skip
    refine g_iconst X (v := 1) dL_act_389 (by decide) ?_
    refine g_goto X 394 dL_act_390 (by decide) ?_
    refine g_0F ?_
    rw [← hσ]
    exact g_acret X hr hlk (by omega) (by omega) dL_act_394 (aC 0 (by omega)) (aC 48 (by omega)) (Inx_up hAx.1 (by omega) hN) hLn' hAx.2

set_option maxHeartbeats 2000000 in
set_option maxRecDepth 100000 in
theorem act_pin (X : gX p m c cL_act 8 s args Ts RL D cy A) (hl0 : l.stackTraces = false) (hE : gEnv s A) (hZ : zAO s) (hr : meth.sig.returnType = some .boolean) (hlk : meth.locks = false) (hX : Inx ρ N T S d) (hLn : LnOK ρ T Ln) (hN : N + 5 ≤ 600) (ht : t < T) (hL16 : Ln t < 16) (hj0 : j0 < 12) : GW p l e { frames := 8, cells := 20, slots := 100, locals := 134 } s m args below meth c (MQ below (va_Qi (actP ad ρ N d) (actB D cy A) A) args s 20 100 A) 8 D A (48 + (8 + S + T)) ad (cW ad cy S T Ln) (wR S ρ ρ) 0 0 184 [(0, .ref (ad 0)), (1, .ref (ad 48)), (2, .int x), (3, .int (nI t)), (5, .int (nI j0))] [] := by
  obtain ⟨hT, hT6, hS, hS8, hd, hdN, hN6, hTu0, hSt, hPi, hZ9, hHd⟩ := id hX.1
  obtain ⟨_, g2, g3, ⟨c0, hc0, ec0⟩, g5, g6⟩ := id hX
  have hI := hX.1
  refine g_F0 (fa := fun _ => 0) (fz := fun _ _ => .inr (0, [])) (φ := z0) ?_
  refine g_aload_n X dL_act_184 1 rfl rfl ?_
  refine g_getr X (0 + 48 + 0) (by show 0 + 48 + 0 < 0 + (48 + (8 + S + T)); omega) 7 (by decide) ku_X4 kv_X4 kf_L_9 rfl (gSub_fr (off := 0 + 48) sub_FS lS_tunes (by omega) (by omega)) dL_act_185 ?_
  refine g_iload_n X dL_act_188 3 rfl rfl ?_
  refine g_aaldA X (0 + 48 + 5) t (by show 0 + 48 + 5 < 0 + (48 + (8 + S + T)); omega) (gSub_ar (off := 0 + 48) sub_FS lS_ts (by omega) (fun i hi => by omega)) rfl (by omega) (by omega) dL_act_189 ?_
  rw [jF_48]
  refine g_aload_n X dL_act_190 1 rfl rfl ?_
  refine g_getr X (0 + 48 + 0) (by show 0 + 48 + 0 < 0 + (48 + (8 + S + T)); omega) 7 (by decide) ku_X4 kv_X4 kf_L_9 rfl (gSub_fr (off := 0 + 48) sub_FS lS_tunes (by omega) (by omega)) dL_act_191 ?_
  refine g_iload_n X dL_act_194 3 rfl rfl ?_
  refine g_aaldA X (0 + 48 + 5) t (by show 0 + 48 + 5 < 0 + (48 + (8 + S + T)); omega) (gSub_ar (off := 0 + 48) sub_FS lS_ts (by omega) (fun i hi => by omega)) rfl (by omega) (by omega) dL_act_195 ?_
  rw [jF_48]
  refine g_alenS (F := 0) X (8 + S + t) lS_tu (by omega) dL_act_196 ?_
  refine g_iconst X (v := 1) dL_act_197 (by decide) ?_
  refine g_iadd X dL_act_198 ?_
  rw [nI_1]
  refine g_stk2 (v' := .ref ((jF 0 (fun _ => 0) ad) (0 + 48 + (8 + S + t)))) (congrArg Value.ref jF_48.symm) ?_
  refine g_ra X hZ (c_copyOf l D cy (0 + (48 + (8 + S + T))) (jF 0 (fun _ => 0) ad) (jF 0 (fun _ _ => .inr (0, [])) (cW ad cy S T Ln)) (jF 0 z0 (wR S ρ ρ)) (0 + 48 + (8 + S + t)) (Ln t) (by omega) (gSub_ai (off := 0 + 48) (sub_FS (fa := (fun _ => 0)) (ad := ad)) lS_tu (by omega)) hL16) kl_L_34 ⟨rfl, rfl, Nat.le_of_ble_eq_true rfl, Nat.le_of_ble_eq_true rfl⟩ rfl rfl (Nat.le_of_ble_eq_true rfl) dL_act_199 ⟨by show _ ≤ 20; omega, by show _ ≤ 100; omega⟩ (fun a => ?_)
  refine g_pushR 1 rfl ?_
  obtain ⟨φ0, sφ0⟩ : ∃ φz, φz = up1 z0 0 (fun j => if j < Ln t then (jF 0 z0 (wR S ρ ρ)) (0 + 48 + (8 + S + t)) j else 0) := ⟨_, rfl⟩
  rw [← sφ0]
  skip
  refine g_astore X [(6, .ref _), (0, .ref _), (1, .ref _), (2, .int _), (3, .int _), (5, .int _)] dL_act_202 (by decide) rfl ?_
  refine g_aload X dL_act_204 0 rfl ?_
  refine g_aload X dL_act_206 0 rfl ?_
  refine g_alen (t0 := 0) X 0 (by show 0 < 1 + (48 + (8 + S + T)); omega) (gAI.ln (jF_ai gAI_n (by decide))) rfl dL_act_208 ?_
  refine g_iconst X (v := 1) dL_act_209 (by decide) ?_
  refine g_isub X dL_act_210 ?_
  rw [show nI (Ln t + 1) - 1 = nI (Ln t) from pk_sub (a := Ln t + 1) (b := 1) (by omega)]
  refine g_joinP 235 (fun v9 : Int32 => ∃ q0 : Nat, q0 < 12 ∧ v9 = nI q0) (fun kj_201 => ?_) (fun v9 hv9 => ?_)
  · skip
    refine g_iload_n X dL_act_211 3 rfl rfl ?_
    refine g_bipush X (v := 6) dL_act_212 (by decide) ?_
    refine g_ishr X dL_act_214 ?_
    refine g_iconst X (v := 2) dL_act_215 (by decide) ?_
    refine g_below X 2 (by omega) (by omega) kl_L_15 ⟨Nat.le_of_ble_eq_true rfl, Nat.le_of_ble_eq_true rfl⟩ (Nat.le_of_ble_eq_true rfl) dL_act_216 ⟨by show _ ≤ 20; omega, by show _ ≤ 100; omega⟩ (fun k_202 hk_202 => ?_)
    refine g_if_ne X 227 dL_act_219 (by decide) (fun c_203 => ?_) (fun c_203 => ?_)
    · skip
      refine g_iload_n X dL_act_227 3 rfl rfl ?_
      refine g_bipush X (v := 7) dL_act_228 (by decide) ?_
      refine g_ishr X dL_act_230 ?_
      refine g_iconst X (v := 4) dL_act_231 (by decide) ?_
      refine g_below X 4 (by omega) (by omega) kl_L_15 ⟨Nat.le_of_ble_eq_true rfl, Nat.le_of_ble_eq_true rfl⟩ (Nat.le_of_ble_eq_true rfl) dL_act_232 ⟨by show _ ≤ 20; omega, by show _ ≤ 100; omega⟩ (fun k4 hk4 => ?_)
      exact kj_201 _ (⟨k4, by omega, rfl⟩)
    · skip
      refine g_iload X dL_act_222 5 rfl ?_
      refine g_goto X 235 dL_act_224 (by decide) ?_
      exact kj_201 _ (⟨j0, hj0, rfl⟩)
  obtain ⟨q0, hq0, rfl⟩ := hv9
  refine g_iastN X 0 (Ln t) (by show 0 < 1 + (48 + (8 + S + T)); omega) (jF_ai gAI_n (by decide)) (by omega) (by omega) dL_act_235 (fun ρ_204 eρ_204 => ?_)
  obtain ⟨φ_205, sφ_205, rfl⟩ := wFl eρ_204 (show 0 < 1 by decide)
  refine g_aload_n X dL_act_236 2 rfl rfl ?_
  refine g_getr X (1 + 48 + 0) (by show 1 + 48 + 0 < 1 + (48 + (8 + S + T)); omega) 7 (by decide) ku_X4 kv_X4 kf_L_9 rfl (gSub_fr (off := 1 + 48) sub_FS lS_tunes (by omega) (by omega)) dL_act_237 ?_
  refine g_iload_n X dL_act_240 4 rfl rfl ?_
  refine g_aload X dL_act_241 0 rfl ?_
  refine g_stk (v' := .ref ((jF 1 (xAd (fun _ => 0) 0 a) ad) 0)) rfl ?_
  refine g_astA X hZ (1 + 48 + 5) 0 t (len := T) (lo := Ln t + 1) (f := fun i => some (aS ad (8 + S + i))) (by show 1 + 48 + 5 < 1 + (48 + (8 + S + T)); omega) (by show 0 < 1 + (48 + (8 + S + T)); omega) (cW_F5 (F := 1)) (jF_ai gAI_n (by decide)) (by omega) (by omega) dL_act_243 ?_
  refine g_toE ?_
  obtain ⟨E2, hE2⟩ : ∃ f : Nat → va_E, f = fun k => xEz (jF 1 (xCz (fun _ _ => .inr (0, [])) 0 (cy 0) (Ln t + 1)) (cW ad cy S T Ln)) (1 + 48 + 5) (.inl (cy 4, T, rfs (va_up (fun i => some (aS ad (8 + S + i))) t (some ((jF 1 (xAd (fun _ => 0) 0 a) ad) 0))))) k ((jF 1 φ_205 (wR S ρ ρ)) k) := ⟨_, rfl⟩
  rw [← hE2]
  have hB0 : ∀ k, k ≠ 53 → k < (48 + (8 + S + T)) → E2 (1 + k) = cW ad cy S T Ln k (wR S ρ ρ k) := fun k h1 hk => by
    rw [hE2]
    show xEz _ _ _ (1 + k) _ = _
    rw [xEz_ne (by omega), jF_hi, jF_hi]
  have hB : ∀ k, k ≠ 48 → k ≠ 53 → k < (48 + (8 + S + T)) → E2 (1 + k) = cW ad cy S T Ln k (wR S ρ ρ k) := fun k _ h1 hk => hB0 k h1 hk
  obtain ⟨σ, hσ⟩ : ∃ f : gSt, f = pinR ρ t q0 (Ln t) := ⟨_, rfl⟩
  obtain ⟨ad', had⟩ : ∃ f : Nat → Nat, f = fun k => if k = 56 + S + t then a else ad k := ⟨_, rfl⟩
  obtain ⟨g, hg⟩ : ∃ f : Nat → Nat, f = fun k => if k = 56 + S + t then 0 else 1 + k := ⟨_, rfl⟩
  have aC : ∀ k, k < 49 → ad' k = ad k := fun k hk => by rw [had]; simp only []; grind
  have gC : ∀ k, k < 56 → g k = 1 + k := fun k hk => by rw [hg]; simp only []; grind
  have hso : ∀ k, k < 14 ∨ 31 < k → σ k = ρ k := fun k hk => by rw [hσ]; exact pin_out hk (by omega)
  have q2 : σ 2 = ρ 2 := hso 2 (by omega)
  have q3 : σ 3 = ρ 3 := hso 3 (by omega)
  have q4 : σ 4 = ρ 4 := hso 4 (by omega)
  have q5 : σ 5 = ρ 5 := hso 5 (by omega)
  have q13 : σ 13 = ρ 13 := hso 13 (by omega)
  have q7 : σ 0 7 = ρ 0 7 := by rw [hso 0 (by omega)]
  have q8 : σ 0 8 = ρ 0 8 := by rw [hso 0 (by omega)]
  have q9 : σ 0 9 = ρ 0 9 := by rw [hso 0 (by omega)]
  have a49 : ad' 49 = ad 49 := by rw [had]; simp only []; grind
  have a50 : ad' 50 = ad 50 := by rw [had]; simp only []; grind
  have a51 : ad' 51 = ad 51 := by rw [had]; simp only []; grind
  have a52 : ad' 52 = ad 52 := by rw [had]; simp only []; grind
  have a53 : ad' 53 = ad 53 := by rw [had]; simp only []; grind
  have a54 : ad' 54 = ad 54 := by rw [had]; simp only []; grind
  have a55 : ad' 55 = ad 55 := by rw [had]; simp only []; grind
  have hAx : Inx σ (N + 1) T S d ∧ Act ρ σ := by rw [hσ]; exact ax_pin hX (by omega) ht hq0 (hLn t ht).1 hL16
  have hst : ∀ j, σ (15 + 3 * t) j = if j = Ln t then nI q0 else ρ (15 + 3 * t) j := fun j => by
    rw [hσ]
    unfold pinR
    rw [up2_k (by omega), up2_k (by omega), up2_e]
    by_cases h : j = Ln t
    · rw [if_pos ⟨rfl, h⟩, if_pos h]
    · rw [if_neg (fun q => h q.2), if_neg h]
  have hsy : ∀ y, y < 6 → y ≠ t → ∀ k, 14 + 3 * y ≤ k → k ≤ 15 + 3 * y → σ k = ρ k := fun y hy h k h1 h2 => by
    rw [hσ]
    funext j
    unfold pinR
    rw [up2_k (by omega), up2_k (by omega), up2_k (by omega)]
  have hLn' : LnOK σ T (fun y => if y = t then Ln t + 1 else Ln y) := fun y hy => by
    show σ (14 + 3 * y) 2 = nI (if y = t then Ln t + 1 else Ln y) ∧ (if y = t then Ln t + 1 else Ln y) ≤ 16
    by_cases h : y = t
    · rw [if_pos h, h]
      exact ⟨by rw [hσ]; unfold pinR; rw [up2_s], by omega⟩
    · rw [if_neg h, hsy y (by omega) h _ (by omega) (by omega)]
      exact hLn y hy
  have hF9 : gAI (cS (aS ad') cy S T (fun y => if y = t then Ln t + 1 else Ln y)) (cy 0) (8 + S + t) (Ln t + 1) := fun r => by rw [lS_tu]; simp
  refine g_ren2 (n' := 48 + (8 + S + T)) (ad' := ad') (cz' := cW ad' cy S T (fun y => if y = t then Ln t + 1 else Ln y)) (ρ' := wR S ρ σ) g (relay (ad := ad) g (fun k hk => by rw [hg, had]; simp only [xAd, jF]; grind) (fun k hk => by rw [gC k (by omega), hB k (by omega) (by omega) (by omega)]; exact cW_C hk) (fun k hk => aC k (by omega)) (by rw [gC 48 (by omega), hB0 48 (by omega) (by omega), q7, q8, q9, a49, a50, a51, a52, a53, a54, a55]; exact cW_S (j := 0)) ⟨sR S ρ 1, by rw [show g 49 = 1 + 49 by rw [hg]; simp only []; grind, hB 49 (by omega) (by omega) (by omega)]; exact cW_S (j := 1), fun j hj => by rw [q2]; rfl⟩ ⟨sR S ρ 2, by rw [show g 50 = 1 + 50 by rw [hg]; simp only []; grind, hB 50 (by omega) (by omega) (by omega)]; exact cW_S (j := 2), fun j hj => by rw [q3]; rfl⟩ ⟨sR S ρ 3, by rw [show g 51 = 1 + 51 by rw [hg]; simp only []; grind, hB 51 (by omega) (by omega) (by omega)]; exact cW_S (j := 3), fun j hj => by rw [q4]; rfl⟩ ⟨sR S ρ 4, by rw [show g 52 = 1 + 52 by rw [hg]; simp only []; grind, hB 52 (by omega) (by omega) (by omega)]; exact cW_S (j := 4), fun j hj => by rw [q5]; rfl⟩ (⟨va_up (fun i => some (aS ad (8 + S + i))) t (some ((jF 1 (xAd (fun _ => 0) 0 a) ad) 0)), by rw [gC 53 (by omega), hE2]; exact xEz_at, fun i hi => by
    rw [had]
    show (if i = t then some a else some (ad (48 + (8 + S + i)))) = _
    simp only []
    grind⟩) (⟨fun i => some (aS ad (8 + i)), by rw [show g 54 = 1 + 54 by rw [hg]; simp only []; grind, hB 54 (by omega) (by omega) (by omega)]; exact cW_S (j := 6), fun i hi => by rw [had]; show some (ad (48 + (8 + i))) = _; simp only []; grind⟩) ⟨sR S ρ 7, by rw [show g 55 = 1 + 55 by rw [hg]; simp only []; grind, hB 55 (by omega) (by omega) (by omega)]; exact cW_S (j := 7), fun j hj => by rw [q13]; rfl⟩ (fun z hz => ⟨sR S ρ (8 + z), by rw [show g (56 + z) = 1 + (48 + (8 + z)) by rw [hg]; simp only []; grind, hB (48 + (8 + z)) (by omega) (by omega) (by omega), cW_S]; exact lS_st hz _, fun j hj => by rw [rS_st hz, rS_st hz, hso (32 + 2 * z) (by omega), hso (33 + 2 * z) (by omega)]⟩) (fun y hy => by
    by_cases h : y = t
    · subst h
      refine ⟨φ_205 0, by rw [show g (56 + S + y) = 0 by rw [hg]; simp only []; grind, hE2]; show xEz _ _ _ 0 _ = _; rw [xEz_ne (by omega), if_pos rfl]; rfl, fun j hj => ?_⟩
      rw [if_pos rfl] at hj
      rw [hst, sφ_205, up2_e]
      by_cases q : j = Ln y
      · rw [if_pos ⟨rfl, q⟩, if_pos q]
      · rw [if_neg (fun h9 => q h9.2), if_neg q, sφ0]
        show (if j < Ln y then _ else _) = _
        rw [if_pos (by omega), rF, rS_tu (by omega)]
    · refine ⟨sR S ρ (8 + S + y), by rw [show g (56 + S + y) = 1 + (48 + (8 + S + y)) by rw [hg]; simp only []; grind, hB (48 + (8 + S + y)) (by omega) (by omega) (by omega), cW_S, lS_tu, if_neg h], fun j hj => ?_⟩
      rw [rS_tu (by omega), hsy y (by omega) h _ (by omega) (by omega)]) (by omega)) (fun i j hi hj h => by rw [hg] at h; simp only [] at h; grind) ?_
  have aQ : ad' (48 + (8 + S + t)) = a := by rw [had]; simp only []; grind
  refine g_eqv (ls' := [(6, .ref (ad' (48 + (8 + S + t)))), (0, .ref (ad' 0)), (1, .ref (ad' 48)), (2, .int x), (3, .int (nI t)), (5, .int (nI j0))]) ?_ (by rw [aC 0 (by omega), aC 48 (by omega), aQ]) rfl rfl rfl
  refine g_F0 (fa := fun _ => 0) (fz := fun _ _ => .inr (0, [])) (φ := z0) ?_
  refine g_aload_n X dL_act_244 1 rfl rfl ?_
  refine g_iload_n X dL_act_245 4 rfl rfl ?_
  refine g_aload X dL_act_246 0 rfl ?_
  refine g_aload X dL_act_248 0 rfl ?_
  refine g_alenS (F := 0) X (8 + S + t) hF9 (by omega) dL_act_250 ?_
  refine g_iconst X (v := 1) dL_act_251 (by decide) ?_
  refine g_isub X dL_act_252 ?_
  rw [show nI (Ln t + 1) - 1 = nI (Ln t) from pk_sub (a := Ln t + 1) (b := 1) (by omega)]
  refine g_ialdS (F := 0) X (8 + S + t) (Ln t) hF9 (by omega) (by omega) (by omega) dL_act_253 ?_
  rw [rF, rS_tu (by omega)]
  rw [hst, if_pos rfl]
  refine g_yc (F := 0) X hE (gYI_2 (c_X3_pin l hl0 D cy ad' ρ N T S d hI (nI t) (nI q0)) (pin_ok hT hT6 ht hq0 (hLn t ht).1 hL16)) kl_L_40 ⟨rfl, rfl, Nat.le_of_ble_eq_true rfl, Nat.le_of_ble_eq_true rfl⟩ rfl rfl (Nat.le_of_ble_eq_true rfl) dL_act_254 ⟨by show _ ≤ 20; omega, by show _ ≤ 100; omega⟩ ?_
  refine g_aload X dL_act_257 0 rfl ?_
  refine g_alenS (F := 0) X (8 + S + t) hF9 (by omega) dL_act_259 ?_
  refine g_icmp_neN X (Ln t + 1) (Ln t + 1) 267 (by omega) (by omega) dL_act_260 (by decide) (fun c_1 => ?_) (fun c_1 => ?_)
  · exfalso; exact c_1 rfl
  · skip
    refine g_iconst X (v := 1) dL_act_263 (by decide) ?_
    refine g_goto X 268 dL_act_264 (by decide) ?_
    refine g_0F ?_
    rw [← hσ]
    exact g_acret X hr hlk (by omega) (by omega) dL_act_268 (aC 0 (by omega)) (aC 48 (by omega)) (Inx_up hAx.1 (by omega) hN) hLn' hAx.2

end AG
