/-! The wider invariant: permits, damps, coins, what streets that are not there paid -/
def Inx (ρ : gSt) (N T S d : Nat) : Prop := Inv ρ N T S d ∧ (∀ z, z < 8 → ∃ u : Nat, u ≤ 127 ∧ ρ (32 + 2 * z) 2 = nI u) ∧ (∀ j, j < 7 → ∃ u : Nat, u ≤ 5 ∧ ρ 13 j = nI u) ∧ (∃ c : Nat, c ≤ 20 + 90 * N ∧ ρ 0 8 = nI c) ∧ (∀ z, S ≤ z → z < 8 → ρ (32 + 2 * z) 3 = 0) ∧ ∀ t, T ≤ t → t < 6 → ρ (14 + 3 * t) 2 = 0
def paid8 (ρ : gSt) : Int32 := sumI (fun z => ρ (32 + 2 * z) 3) 8
def qv (ρ : gSt) : Int32 := ρ 0 8 + ρ 0 9 - paid8 ρ
/-- what an action may do -/
def Act (ρ σ : gSt) : Prop := (qv σ = qv ρ ∨ qv σ = qv ρ - 4) ∧ σ 0 7 = ρ 0 7 ∧ ((∀ j, σ 4 j = ρ 4 j) ∨ ∀ j, j < 12 → σ 4 j = 0)
section IX
variable {ρ σ : gSt} {N M T S d T' S' d' t z q k w u L i : Nat} {Ln : Nat → Nat} {x y : Int32}
theorem Inv_at (h : gKp σ N) (h5 : σ 0 5 = nI T') (hT : T' ≤ 6) (h6 : σ 0 6 = nI S') (hS : S' ≤ 8) (h7 : σ 0 7 = nI d') (hd : d' < 2 ^ 31) : Inv σ N T' S' d' := by
  obtain ⟨T, S, d, hI⟩ := h
  obtain rfl : T = T' := (nI_eq (by have := hI.2.1; omega) (by omega)).mp (hI.1.symm.trans h5)
  obtain rfl : S = S' := (nI_eq (by have := hI.2.2.2.1; omega) (by omega)).mp (hI.2.2.1.symm.trans h6)
  obtain rfl : d = d' := (nI_eq (by have := hI.2.2.2.2.2.1; have := hI.2.2.2.2.2.2.1; omega) hd).mp (hI.2.2.2.2.1.symm.trans h7)
  exact hI
theorem Inv_up (hI : Inv ρ N T S d) (h : N ≤ M) (hM : M ≤ 600) : Inv ρ M T S d := by
  obtain ⟨hT, hT6, hS, hS8, hd, hdN, hN, hTu, hSt, hPi, hZ, hHd⟩ := hI
  refine ⟨hT, hT6, hS, hS8, hd, by omega, hM, hTu, fun z hz => ?_, hPi, hZ, hHd⟩
  obtain ⟨h1, h2⟩ := hSt z hz
  refine ⟨h1, fun t ht => ?_⟩
  obtain ⟨q, hq, e⟩ := h2 t ht
  exact ⟨q, by omega, e⟩
theorem Inx_up (hI : Inx ρ N T S d) (h : N ≤ M) (hM : M ≤ 600) : Inx ρ M T S d := by
  obtain ⟨h1, h2, h3, ⟨c, hc, e⟩, h5, h6⟩ := hI
  exact ⟨Inv_up h1 h hM, h2, h3, ⟨c, by omega, e⟩, h5, h6⟩
theorem Inx_d (hI : Inx ρ N T S d) : d < 2 ^ 30 := by
  have h1 := hI.1.2.2.2.2.2.1
  have h2 := hI.1.2.2.2.2.2.2.1
  omega
theorem gKp_of (hI : Inv ρ N T S d) : gKp ρ N := ⟨T, S, d, hI⟩
theorem paid_cg (h : ∀ z, z < 8 → σ (32 + 2 * z) 3 = ρ (32 + 2 * z) 3) : paid8 σ = paid8 ρ := sumI_congr (fun z hz => h z hz)
theorem paid_S (hS8 : S ≤ 8) (h : ∀ z, S ≤ z → z < 8 → ρ (32 + 2 * z) 3 = 0) : sumI (fun z => ρ (32 + 2 * z) 3) S = paid8 ρ := by
  have key : ∀ n, S ≤ n → n ≤ 8 → sumI (fun z => ρ (32 + 2 * z) 3) n = sumI (fun z => ρ (32 + 2 * z) 3) S := by
    intro n
    induction n with
    | zero => intro h _; rw [show S = 0 by omega]
    | succ n ih =>
      intro h1 h8
      rcases Nat.lt_or_ge n S with q | q
      · rw [show n + 1 = S by omega]
      · rw [sumI_s, ih q (by omega), h n q (by omega), Int32.add_zero]
  exact (key 8 hS8 (Nat.le_refl 8)).symm
/-- an action that leaves coins, fines and crickets -/
theorem Act_fr (h0 : σ 0 7 = ρ 0 7) (h8 : σ 0 8 = ρ 0 8) (h9 : σ 0 9 = ρ 0 9) (hp : ∀ z, z < 8 → σ (32 + 2 * z) 3 = ρ (32 + 2 * z) 3) (h4 : ∀ j, σ 4 j = ρ 4 j) : Act ρ σ := ⟨Or.inl (by unfold qv; rw [h8, h9, paid_cg hp]), h0, Or.inl h4⟩
theorem Act_rf : Act ρ ρ := Act_fr rfl rfl rfl (fun _ _ => rfl) (fun _ => rfl)
/-- the invariant's own part, where the rest stays -/
theorem Inx_fr (hX : Inx ρ N T S d) (hI : Inv σ (N + 1) T' S' d') (hS : S ≤ S') (h2 : ∀ z, z < 8 → σ (32 + 2 * z) 2 = ρ (32 + 2 * z) 2) (h3 : ∀ j, j < 7 → σ 13 j = ρ 13 j) (h8 : σ 0 8 = ρ 0 8) (hp : ∀ z, z < 8 → σ (32 + 2 * z) 3 = ρ (32 + 2 * z) 3) (hT : T ≤ T') (ht : ∀ t, T' ≤ t → t < 6 → σ (14 + 3 * t) 2 = ρ (14 + 3 * t) 2) : Inx σ (N + 1) T' S' d' := by
  obtain ⟨_, g2, g3, ⟨c, hc, e⟩, g5, g6⟩ := hX
  exact ⟨hI, fun z hz => by rw [h2 z hz]; exact g2 z hz, fun j hj => by rw [h3 j hj]; exact g3 j hj, ⟨c, by omega, h8.trans e⟩, fun z h hz => by rw [hp z hz]; exact g5 z (by omega) hz, fun t h h6 => by rw [ht t h h6]; exact g6 t (by omega) h6⟩
theorem lt600 (hI : Inv σ (N + 1) T' S' d') : N < 600 := by
  have := hI.2.2.2.2.2.2.1
  omega
-- the actions
theorem ax_bar (hX : Inx ρ N T S d) (hN : N < 600) (h : T < 6) : Inx (up2 ρ 0 5 (nI (T + 1))) (N + 1) (T + 1) S d ∧ Act ρ (up2 ρ 0 5 (nI (T + 1))) := by
  obtain ⟨hT, hT6, hS, hS8, hd, hdN, _, hTu, hSt, hPi, hZ, hHd⟩ := id hX.1
  have hk := kp_bar (gKp_of hX.1) hN
  rw [bar_ok hT h] at hk
  have hI := Inv_at (σ := up2 ρ 0 5 (nI (T + 1))) hk (T' := T + 1) (S' := S) (d' := d) up2_s (by omega) (by rw [up2_j (by omega)]; exact hS) hS8 (by rw [up2_j (by omega)]; exact hd) (by omega)
  exact ⟨Inx_fr hX hI (Nat.le_refl _) (fun z hz => up2_k (by omega)) (fun j hj => up2_k (by omega)) (up2_j (by omega)) (fun z hz => up2_k (by omega)) (by omega) (fun t h1 h2 => up2_k (by omega)), Act_fr (up2_j (by omega)) (up2_j (by omega)) (up2_j (by omega)) (fun z hz => up2_k (by omega)) (fun j => up2_k (by omega))⟩
theorem pin_out (h : k < 14 ∨ 31 < k) (ht : t < 6) : pinR ρ t q L k = ρ k := by
  funext j
  unfold pinR
  rw [up2_k (by omega), up2_k (by omega), up2_k (by omega)]
theorem ax_pin (hX : Inx ρ N T S d) (hN : N < 600) (ht : t < T) (hq : q < 12) (hL : ρ (14 + 3 * t) 2 = nI L) (h : L < 16) : Inx (pinR ρ t q L) (N + 1) T S d ∧ Act ρ (pinR ρ t q L) := by
  obtain ⟨hT, hT6, hS, hS8, hd, hdN, _, hTu, hSt, hPi, hZ, hHd⟩ := id hX.1
  have hk := kp_pin (x := nI t) (y := nI q) (gKp_of hX.1) hN
  rw [pin_ok hT hT6 ht hq hL h] at hk
  have ho : ∀ k, k < 14 ∨ 31 < k → pinR ρ t q L k = ρ k := fun k hk => pin_out hk (by omega)
  have hI := Inv_at (σ := pinR ρ t q L) hk (T' := T) (S' := S) (d' := d) (by rw [ho 0 (by omega)]; exact hT) (by omega) (by rw [ho 0 (by omega)]; exact hS) hS8 (by rw [ho 0 (by omega)]; exact hd) (by omega)
  exact ⟨Inx_fr hX hI (Nat.le_refl _) (fun z hz => by rw [ho _ (by omega)]) (fun j hj => by rw [ho _ (by omega)]) (by rw [ho _ (by omega)]) (fun z hz => by rw [ho _ (by omega)]) (Nat.le_refl _) (fun y h1 h2 => by unfold pinR; rw [up2_k (by omega), up2_k (by omega), up2_k (by omega)]), Act_fr (by rw [ho _ (by omega)]) (by rw [ho _ (by omega)]) (by rw [ho _ (by omega)]) (fun z hz => by rw [ho _ (by omega)]) (fun j => by rw [ho _ (by omega)])⟩
theorem ax_str (hX : Inx ρ N T S d) (hN : N < 600) (h : S < 8) (hu : u ≤ 90) (hw : w ≤ 127) : Inx (strR ρ S u w) (N + 1) T (S + 1) d ∧ Act ρ (strR ρ S u w) := by
  obtain ⟨hT, hT6, hS, hS8, hd, hdN, _, hTu, hSt, hPi, hZ, hHd⟩ := id hX.1
  obtain ⟨_, g2, g3, ⟨c, hc, ec⟩, g5, g6⟩ := id hX
  have hk := kp_str (x := nI u) (y := nI w) (gKp_of hX.1) hN
  rw [str_ok hS h hu hw] at hk
  have e0 : ∀ j, j ≠ 6 → strR ρ S u w 0 j = ρ 0 j := fun j hj => by unfold strR; rw [up2_j hj, up2_k (by omega), up2_k (by omega)]
  have eo : ∀ k, k ≠ 0 → k ≠ 32 + 2 * S → ∀ j, strR ρ S u w k j = ρ k j := fun k h1 h2 j => by unfold strR; rw [up2_k h1, up2_k h2, up2_k h2]
  have e3 : ∀ z, z < 8 → strR ρ S u w (32 + 2 * z) 3 = ρ (32 + 2 * z) 3 := fun z hz => by unfold strR; rw [up2_k (by omega), up2_j (by omega), up2_j (by omega)]
  have e2 : ∀ z, z < 8 → ∃ v : Nat, v ≤ 127 ∧ strR ρ S u w (32 + 2 * z) 2 = nI v := fun z hz => by
    by_cases q : z = S
    · subst q
      exact ⟨w, hw, by unfold strR; rw [up2_k (by omega), up2_s]⟩
    · rw [eo _ (by omega) (by omega)]
      exact g2 z hz
  have hI := Inv_at (σ := strR ρ S u w) hk (T' := T) (S' := S + 1) (d' := d) (by rw [e0 _ (by omega)]; exact hT) hT6 (by unfold strR; rw [up2_s]) (by omega) (by rw [e0 _ (by omega)]; exact hd) (by omega)
  exact ⟨⟨hI, e2, fun j hj => by rw [eo _ (by omega) (by omega)]; exact g3 j hj, ⟨c, by omega, by rw [e0 _ (by omega)]; exact ec⟩, fun z h1 h2 => by rw [e3 z h2]; exact g5 z (by omega) h2, fun y h1 h2 => by rw [eo _ (by omega) (by omega)]; exact g6 y h1 h2⟩, Act_fr (e0 _ (by omega)) (e0 _ (by omega)) (e0 _ (by omega)) e3 (fun j => eo _ (by omega) (by omega) j)⟩
theorem ax_per (hX : Inx ρ N T S d) (hN : N < 600) (hz : z < S) (hw : w ≤ 127) : Inx (up2 ρ (32 + 2 * z) 2 (nI w)) (N + 1) T S d ∧ Act ρ (up2 ρ (32 + 2 * z) 2 (nI w)) := by
  obtain ⟨hT, hT6, hS, hS8, hd, hdN, _, hTu, hSt, hPi, hZ, hHd⟩ := id hX.1
  obtain ⟨_, g2, g3, ⟨c, hc, ec⟩, g5, g6⟩ := id hX
  have hk := kp_per (x := nI z) (y := nI w) (gKp_of hX.1) hN
  rw [per_ok hS hS8 hz hw] at hk
  have hI := Inv_at (σ := up2 ρ (32 + 2 * z) 2 (nI w)) hk (T' := T) (S' := S) (d' := d) (by rw [up2_k (by omega)]; exact hT) hT6 (by rw [up2_k (by omega)]; exact hS) hS8 (by rw [up2_k (by omega)]; exact hd) (by omega)
  refine ⟨⟨hI, fun y hy => ?_, fun j hj => by rw [up2_k (by omega)]; exact g3 j hj, ⟨c, by omega, by rw [up2_k (by omega)]; exact ec⟩, fun y h1 h2 => by rw [up2_j (by omega)]; exact g5 y h1 h2, fun y h1 h2 => by rw [up2_k (by omega)]; exact g6 y h1 h2⟩, Act_fr (up2_k (by omega)) (up2_k (by omega)) (up2_k (by omega)) (fun y hy => up2_j (by omega)) (fun j => up2_k (by omega))⟩
  rw [up2_e]
  split
  · exact ⟨w, hw, rfl⟩
  · exact g2 y hy
theorem ax_dam (hX : Inx ρ N T S d) (hN : N < 600) (hk : k < 7) (hw : w ≤ 5) : Inx (up2 ρ 13 k (nI w)) (N + 1) T S d ∧ Act ρ (up2 ρ 13 k (nI w)) := by
  obtain ⟨hT, hT6, hS, hS8, hd, hdN, _, hTu, hSt, hPi, hZ, hHd⟩ := id hX.1
  obtain ⟨_, g2, g3, ⟨c, hc, ec⟩, g5, g6⟩ := id hX
  have hkp := kp_dam (x := nI k) (y := nI w) (gKp_of hX.1) hN
  rw [dam_ok hk hw] at hkp
  have hI := Inv_at (σ := up2 ρ 13 k (nI w)) hkp (T' := T) (S' := S) (d' := d) (by rw [up2_k (by omega)]; exact hT) hT6 (by rw [up2_k (by omega)]; exact hS) hS8 (by rw [up2_k (by omega)]; exact hd) (by omega)
  refine ⟨⟨hI, fun y hy => by rw [up2_k (by omega)]; exact g2 y hy, fun j hj => ?_, ⟨c, by omega, by rw [up2_k (by omega)]; exact ec⟩, fun y h1 h2 => by rw [up2_k (by omega)]; exact g5 y h1 h2, fun y h1 h2 => by rw [up2_k (by omega)]; exact g6 y h1 h2⟩, Act_fr (up2_k (by omega)) (up2_k (by omega)) (up2_k (by omega)) (fun y hy => up2_k (by omega)) (fun j => up2_k (by omega))⟩
  rw [up2_e]
  split
  · exact ⟨w, hw, rfl⟩
  · exact g3 j hj
theorem ax_tun (hX : Inx ρ N T S d) (hN : N < 600) (hi : i < 12) (h1 : ¬ y < -120) (h2 : y ≤ 120) : Inx (up2 ρ 3 i (hdd (ρ 3 i + y))) (N + 1) T S d ∧ Act ρ (up2 ρ 3 i (hdd (ρ 3 i + y))) := by
  obtain ⟨hT, hT6, hS, hS8, hd, hdN, _, hTu, hSt, hPi, hZ, hHd⟩ := id hX.1
  have hkp := kp_tun (x := nI i) (y := y) (gKp_of hX.1) hN
  rw [tun_ok hi h1 h2] at hkp
  have hI := Inv_at (σ := up2 ρ 3 i (hdd (ρ 3 i + y))) hkp (T' := T) (S' := S) (d' := d) (by rw [up2_k (by omega)]; exact hT) hT6 (by rw [up2_k (by omega)]; exact hS) hS8 (by rw [up2_k (by omega)]; exact hd) (by omega)
  exact ⟨Inx_fr hX hI (Nat.le_refl _) (fun z hz => up2_k (by omega)) (fun j hj => up2_k (by omega)) (up2_k (by omega)) (fun z hz => up2_k (by omega)) (Nat.le_refl _) (fun t h1 h2 => up2_k (by omega)), Act_fr (up2_k (by omega)) (up2_k (by omega)) (up2_k (by omega)) (fun z hz => up2_k (by omega)) (fun j => up2_k (by omega))⟩
theorem lt4 {c : Nat} (hc : c < 2 ^ 31) (h : ¬ nI c < 4) : 4 ≤ c := by
  rcases Nat.lt_or_ge c 4 with q | q
  · exact absurd ((nI_ltI (b := 4) hc (by omega)).mpr q) h
  · exact q
theorem ax_fel (hX : Inx ρ N T S d) (hN : N < 600) (hi : i < 12) (h : ¬ ρ 0 8 < 4) : Inx (up2 (up2 ρ 0 8 (ρ 0 8 - 4)) 2 i 0) (N + 1) T S d ∧ Act ρ (up2 (up2 ρ 0 8 (ρ 0 8 - 4)) 2 i 0) := by
  obtain ⟨hT, hT6, hS, hS8, hd, hdN, _, hTu, hSt, hPi, hZ, hHd⟩ := id hX.1
  obtain ⟨_, g2, g3, ⟨c, hc, ec⟩, g5, g6⟩ := id hX
  have hkp := kp_fel (x := nI i) (gKp_of hX.1) hN
  rw [fel_ok hi h] at hkp
  have e0 : ∀ j, j ≠ 8 → up2 (up2 ρ 0 8 (ρ 0 8 - 4)) 2 i 0 0 j = ρ 0 j := fun j hj => by rw [up2_k (by omega), up2_j hj]
  have eo : ∀ k, k ≠ 0 → k ≠ 2 → ∀ j, up2 (up2 ρ 0 8 (ρ 0 8 - 4)) 2 i 0 k j = ρ k j := fun k h1 h2 j => by rw [up2_k h2, up2_k h1]
  have e8 : up2 (up2 ρ 0 8 (ρ 0 8 - 4)) 2 i 0 0 8 = ρ 0 8 - 4 := by rw [up2_k (by omega), up2_s]
  have hI := Inv_at (σ := up2 (up2 ρ 0 8 (ρ 0 8 - 4)) 2 i 0) hkp (T' := T) (S' := S) (d' := d) (by rw [e0 _ (by omega)]; exact hT) hT6 (by rw [e0 _ (by omega)]; exact hS) hS8 (by rw [e0 _ (by omega)]; exact hd) (by omega)
  rw [ec] at h
  have h4 := lt4 (by omega) h
  refine ⟨⟨hI, fun y hy => by rw [eo _ (by omega) (by omega)]; exact g2 y hy, fun j hj => by rw [eo _ (by omega) (by omega)]; exact g3 j hj, ⟨c - 4, by omega, by rw [e8, ec]; exact pk_sub (b := 4) h4⟩, fun y h1 h2 => by rw [eo _ (by omega) (by omega)]; exact g5 y h1 h2, fun y h1 h2 => by rw [eo _ (by omega) (by omega)]; exact g6 y h1 h2⟩, Or.inr ?_, e0 _ (by omega), Or.inl (fun j => eo _ (by omega) (by omega) j)⟩
  unfold qv
  rw [e8, e0 9 (by omega), paid_cg (fun z hz => eo _ (by omega) (by omega) 3)]
  simp only [Int32.sub_eq_add_neg]
  rw [Int32.add_assoc (ρ 0 8), Int32.add_comm (-4) (ρ 0 9), ← Int32.add_assoc, Int32.add_assoc (ρ 0 8 + ρ 0 9), Int32.add_comm (-4), ← Int32.add_assoc]
theorem ax_cha (hX : Inx ρ N T S d) (hN : N < 600) : Inx (clrR ρ 1 12) (N + 1) T S d ∧ Act ρ (clrR ρ 1 12) := by
  obtain ⟨hT, hT6, hS, hS8, hd, hdN, _, hTu, hSt, hPi, hZ, hHd⟩ := id hX.1
  have hkp := kp_cha (gKp_of hX.1) hN
  have eo : ∀ k, k ≠ 4 → ∀ j, clrR ρ 1 12 k j = ρ k j := fun k h1 j => by unfold clrR; rw [if_neg (by omega)]
  have hI := Inv_at (σ := clrR ρ 1 12) hkp (T' := T) (S' := S) (d' := d) (by rw [eo _ (by omega)]; exact hT) hT6 (by rw [eo _ (by omega)]; exact hS) hS8 (by rw [eo _ (by omega)]; exact hd) (by omega)
  refine ⟨Inx_fr hX hI (Nat.le_refl _) (fun z hz => eo _ (by omega) _) (fun j hj => eo _ (by omega) _) (eo _ (by omega) _) (fun z hz => eo _ (by omega) _) (Nat.le_refl _) (fun t h1 h2 => eo _ (by omega) _), Or.inl ?_, eo _ (by omega) _, Or.inr (fun j hj => by unfold clrR; rw [if_pos ⟨rfl, hj⟩])⟩
  unfold qv
  rw [eo _ (by omega), eo _ (by omega), paid_cg (fun z hz => eo _ (by omega) 3)]
theorem finR_o (h : k ≠ 0) : finR ρ k = ρ k := by
  funext j
  unfold finR
  rw [up2_k h, up2_k h]
theorem plyR_o (h0 : k ≠ 0) (h1 : k ≠ 32 + 2 * z) (h2 : k ≠ 33 + 2 * z) (h3 : k ≠ 2) (h4 : k ≠ 5) : plyR ρ z t k = ρ k := by
  unfold plyR
  rw [wd_out h3 h4]
  funext j
  rw [up2_k h2, up2_k h1, up2_k h0]
theorem plyR_0 (hj : i ≠ 8) : plyR ρ z t 0 i = ρ 0 i := by
  unfold plyR
  rw [wd_out (by omega) (by omega), up2_k (by omega), up2_k (by omega), up2_j hj]
theorem plyR_8 : plyR ρ z t 0 8 = ρ 0 8 + pyN ρ z t := by
  unfold plyR
  rw [wd_out (by omega) (by omega), up2_k (by omega), up2_k (by omega), up2_s]
theorem plyR_2 : plyR ρ z t (32 + 2 * z) 2 = ρ (32 + 2 * z) 2 := by
  unfold plyR
  rw [wd_out (by omega) (by omega), up2_k (by omega), up2_j (by omega), up2_k (by omega)]
theorem plyR_p {y : Nat} : plyR ρ z t (32 + 2 * y) 3 = if y = z then ρ (32 + 2 * z) 3 + pyN ρ z t else ρ (32 + 2 * y) 3 := by
  by_cases h : y = z
  · subst h
    rw [if_pos rfl]
    unfold plyR
    rw [wd_out (by omega) (by omega), up2_k (by omega), up2_s]
  · rw [if_neg h]
    rw [plyR_o (by omega) (by omega) (by omega) (by omega) (by omega)]
theorem paid_add {v : Int32} (hz : z < 8) (h : ∀ y, y < 8 → σ (32 + 2 * y) 3 = if y = z then ρ (32 + 2 * z) 3 + v else ρ (32 + 2 * y) 3) : paid8 σ = paid8 ρ + v := by
  have key : ∀ n, n ≤ 8 → sumI (fun y => σ (32 + 2 * y) 3) n = sumI (fun y => ρ (32 + 2 * y) 3) n + (if z < n then v else 0) := by
    intro n
    induction n with
    | zero => intro _; rw [if_neg (by omega)]; rfl
    | succ n ih =>
      intro hn
      rw [sumI_s, sumI_s, ih (by omega), h n (by omega)]
      by_cases h1 : n = z
      · subst h1
        rw [if_neg (Nat.lt_irrefl n), if_pos rfl, if_pos (by omega), Int32.add_zero, Int32.add_assoc]
      · rw [if_neg h1]
        by_cases h2 : z < n
        · rw [if_pos h2, if_pos (by omega), Int32.add_assoc, Int32.add_comm v, ← Int32.add_assoc]
        · rw [if_neg h2, if_neg (by omega), Int32.add_zero, Int32.add_zero]
  have := key 8 (Nat.le_refl 8)
  rw [if_pos hz] at this
  exact this
theorem pay_90 (hX : Inx ρ N T S d) (hz : z < 8) (ht : t < 6) : ∃ p : Nat, p ≤ 90 ∧ pyN ρ z t = nI p := by
  obtain ⟨hT, hT6, hS, hS8, hd, hdN, _, hTu, hSt, hPi, hZ, hHd⟩ := id hX.1
  obtain ⟨⟨u, hu, eu⟩, hh⟩ := hSt z hz
  obtain ⟨h, hhN, eh⟩ := hh t ht
  obtain ⟨v, hv, ev⟩ := snd_N (sp := -1) (hTu t ht) hPi
  have h1 : u * v ≤ 90 * 60 := Nat.mul_le_mul hu hv
  have h2 : u * v / 60 ≤ 90 := by omega
  have h3 : u * v / 60 / 2 ^ h ≤ 90 := Nat.le_trans (Nat.div_le_self _ _) h2
  refine ⟨u * v / 60 / 2 ^ h, h3, ?_⟩
  unfold pyN payV
  rw [eu, ev, pk_mul, show (60 : Int32) = nI 60 from rfl, pk_div (by omega) (by omega) (by omega), eh, nI_clamp (by omega), nI_clamp (by omega)]
theorem add_sub32 (a b c : Int32) : a + c - (b + c) = a - b := by
  simp only [Int32.sub_eq_add_neg, Int32.neg_add]
  rw [Int32.add_assoc, ← Int32.add_assoc c, Int32.add_comm c (-b), Int32.add_assoc (-b), Int32.add_right_neg, Int32.add_zero]
theorem fine_q (a b m p : Int32) : a - m + (b + m) - p = a + b - p := by
  simp only [Int32.sub_eq_add_neg]
  rw [Int32.add_comm b m, Int32.add_assoc a, ← Int32.add_assoc (-m), Int32.add_left_neg, Int32.zero_add]
theorem ax_pla (hX : Inx ρ N T S d) (hN : N < 600) (hz : z < S) (ht : t < T) (hL : ¬ ρ (14 + 3 * t) 2 = 0) : Inx (plR ρ z t) (N + 1) T S d ∧ Act ρ (plR ρ z t) := by
  obtain ⟨hT, hT6, hS, hS8, hd, hdN, _, hTu, hSt, hPi, hZ, hHd⟩ := id hX.1
  obtain ⟨_, g2, g3, ⟨c, hc, ec⟩, g5, g6⟩ := id hX
  have hkp := kp_pla (x := nI z) (y := nI t) (gKp_of hX.1) hN
  rw [pla_ok hT hT6 hS hS8 hz ht hL] at hkp
  have hkp : gKp (plR ρ z t) (N + 1) := hkp
  unfold plR at hkp ⊢
  by_cases h : pmF (ρ (32 + 2 * z) 2) (wdF ρ) = 0
  · rw [if_pos h] at hkp ⊢
    have e0 : ∀ j, j ≠ 8 → j ≠ 9 → finR ρ 0 j = ρ 0 j := fun j h1 h2 => by unfold finR; rw [up2_j h2, up2_j h1]
    have e8 : finR ρ 0 8 = ρ 0 8 - mnI 10 (ρ 0 8) := by unfold finR; rw [up2_j (by omega), up2_s]
    have e9 : finR ρ 0 9 = ρ 0 9 + mnI 10 (ρ 0 8) := by unfold finR; rw [up2_s]
    have hI := Inv_at hkp (T' := T) (S' := S) (d' := d) (by rw [e0 _ (by omega) (by omega)]; exact hT) hT6 (by rw [e0 _ (by omega) (by omega)]; exact hS) hS8 (by rw [e0 _ (by omega) (by omega)]; exact hd) (by omega)
    refine ⟨⟨hI, fun y hy => by rw [finR_o (by omega)]; exact g2 y hy, fun j hj => by rw [finR_o (by omega)]; exact g3 j hj, ⟨c - min 10 c, by omega, by rw [e8, ec, show mnI 10 (nI c) = nI (min 10 c) from mn_N (x := 10) (by omega) (by omega)]; exact pk_sub (Nat.min_le_right _ _)⟩, fun y h1 h2 => by rw [finR_o (by omega)]; exact g5 y h1 h2, fun y h1 h2 => by rw [finR_o (by omega)]; exact g6 y h1 h2⟩, Or.inl ?_, e0 _ (by omega) (by omega), Or.inl (fun j => by rw [finR_o (by omega)])⟩
    unfold qv
    rw [e8, e9, paid_cg (fun z hz => by rw [finR_o (by omega)]), fine_q]
  · rw [if_neg h] at hkp ⊢
    obtain ⟨p, hp, ep⟩ := pay_90 hX (z := z) (t := t) (by omega) (by omega)
    have hI := Inv_at hkp (T' := T) (S' := S) (d' := d) (by rw [plyR_0 (by omega)]; exact hT) hT6 (by rw [plyR_0 (by omega)]; exact hS) hS8 (by rw [plyR_0 (by omega)]; exact hd) (by omega)
    refine ⟨⟨hI, fun y hy => ?_, fun j hj => by rw [plyR_o (by omega) (by omega) (by omega) (by omega) (by omega)]; exact g3 j hj, ⟨c + p, by omega, by rw [plyR_8, ec, ep, nI_add]⟩, fun y h1 h2 => by rw [plyR_p, if_neg (by omega)]; exact g5 y h1 h2, fun y h1 h2 => by rw [plyR_o (by omega) (by omega) (by omega) (by omega) (by omega)]; exact g6 y h1 h2⟩, Or.inl ?_, plyR_0 (by omega), Or.inl (fun j => by rw [plyR_o (by omega) (by omega) (by omega) (by omega) (by omega)])⟩
    · by_cases q : y = z
      · subst q
        rw [plyR_2]
        exact g2 y hy
      · rw [plyR_o (by omega) (by omega) (by omega) (by omega) (by omega)]
        exact g2 y hy
    · unfold qv
      rw [plyR_8, plyR_0 (by omega), paid_add (by omega) (fun y _ => plyR_p), Int32.add_assoc, Int32.add_comm (pyN ρ z t), ← Int32.add_assoc, add_sub32]
theorem resR_o (hS8 : S ≤ 8) (h6 : ρ 0 6 = nI S) (h0 : k ≠ 0) (h1 : k < 3 ∨ 5 < k) (h2 : k < 33 ∨ k % 2 = 0) : resR ρ 1 k = ρ k := by
  funext j
  unfold resR
  rw [up2_k h0]
  unfold fgA
  rw [if_neg (by omega), nsR_out (by omega)]
theorem resR_0 (hj : i ≠ 7) : resR ρ 1 0 i = ρ 0 i := by
  unfold resR
  rw [up2_j hj]
  unfold fgA
  rw [if_neg (by omega), nsR_out (by omega)]
theorem resR_7 (h7 : ρ 0 7 = nI d) (hd : d < 2 ^ 31) : resR ρ 1 0 7 = nI (d + 1) := by
  unfold resR
  rw [up2_s, h7, ix_N hd]
theorem ax_res (hX : Inx ρ N T S d) (hN : N < 600) : Inx (resR ρ 1) (N + 1) T S (d + 1) := by
  obtain ⟨hT, hT6, hS, hS8, hd, hdN, _, hTu, hSt, hPi, hZ, hHd⟩ := id hX.1
  obtain ⟨_, g2, g3, ⟨c, hc, ec⟩, g5, g6⟩ := id hX
  have hkp := kp_res (x := 1) (gKp_of hX.1) hN
  rw [res_ok hd (by omega)] at hkp
  have hI := Inv_at (σ := resR ρ 1) hkp (T' := T) (S' := S) (d' := d + 1) (by rw [resR_0 (by omega)]; exact hT) hT6 (by rw [resR_0 (by omega)]; exact hS) hS8 (resR_7 hd (by omega)) (by omega)
  exact ⟨hI, fun y hy => by rw [resR_o hS8 hS (by omega) (by omega) (by omega)]; exact g2 y hy, fun j hj => by rw [resR_o hS8 hS (by omega) (by omega) (by omega)]; exact g3 j hj, ⟨c, by omega, by rw [resR_0 (by omega)]; exact ec⟩, fun y h1 h2 => by rw [resR_o hS8 hS (by omega) (by omega) (by omega)]; exact g5 y h1 h2, fun y h1 h2 => by rw [resR_o hS8 hS (by omega) (by omega) (by omega)]; exact g6 y h1 h2⟩
theorem Act_tr {τ : gSt} (h1 : Act ρ σ) (h2 : Act σ τ) (h : qv σ = qv ρ ∨ qv τ = qv σ) : Act ρ τ := by
  obtain ⟨a1, a2, a3⟩ := h1
  obtain ⟨b1, b2, b3⟩ := h2
  refine ⟨?_, b2.trans a2, ?_⟩
  · rcases h with h | h
    · rw [h] at b1; exact b1
    · rw [h]; exact a1
  · rcases b3 with b3 | b3
    · rcases a3 with a3 | a3
      · exact Or.inl (fun j => (b3 j).trans (a3 j))
      · exact Or.inr (fun j hj => (b3 j).trans (a3 j hj))
    · exact Or.inr b3
theorem qv_pla (hX : Inx ρ N T S d) (hz : z < 8) : qv (plR ρ z t) = qv ρ := by
  unfold plR
  by_cases h : pmF (ρ (32 + 2 * z) 2) (wdF ρ) = 0
  · rw [if_pos h]
    have e8 : finR ρ 0 8 = ρ 0 8 - mnI 10 (ρ 0 8) := by unfold finR; rw [up2_j (by omega), up2_s]
    have e9 : finR ρ 0 9 = ρ 0 9 + mnI 10 (ρ 0 8) := by unfold finR; rw [up2_s]
    unfold qv
    rw [e8, e9, paid_cg (fun z hz => by rw [finR_o (by omega)]), fine_q]
  · rw [if_neg h]
    unfold qv
    rw [plyR_8, plyR_0 (by omega), paid_add hz (fun y _ => plyR_p), Int32.add_assoc, Int32.add_comm (pyN ρ z t), ← Int32.add_assoc, add_sub32]
/-- playing again and again -/
def plI (ρ : gSt) (z t : Nat) : Nat → gSt
  | 0 => ρ
  | k + 1 => plR (plI ρ z t k) z t
theorem plR_len (ht : t < 6) (hz : z < 8) : plR ρ z t (14 + 3 * t) = ρ (14 + 3 * t) := by
  unfold plR
  split
  · exact finR_o (by omega)
  · exact plyR_o (by omega) (by omega) (by omega) (by omega) (by omega)
theorem plR_tun {y : Nat} (hy : y < 6) (hz : z < 8) : plR ρ z t (14 + 3 * y) = ρ (14 + 3 * y) := by
  unfold plR
  split
  · exact finR_o (by omega)
  · exact plyR_o (by omega) (by omega) (by omega) (by omega) (by omega)
theorem ax_plI (hX : Inx ρ N T S d) (hz : z < S) (ht : t < T) (hL : ¬ ρ (14 + 3 * t) 2 = 0) (hLn : LnOK ρ T Ln) (hN : N + k ≤ 600) : Inx (plI ρ z t k) (N + k) T S d ∧ Act ρ (plI ρ z t k) ∧ qv (plI ρ z t k) = qv ρ ∧ LnOK (plI ρ z t k) T Ln ∧ ¬ plI ρ z t k (14 + 3 * t) 2 = 0 := by
  have hT6 := hX.1.2.1
  have hS8 := hX.1.2.2.2.1
  induction k with
  | zero => exact ⟨hX, Act_rf, rfl, hLn, hL⟩
  | succ k ih =>
    obtain ⟨i1, i2, i3, i4, i5⟩ := ih (by omega)
    obtain ⟨a1, a2⟩ := ax_pla i1 (by omega) hz ht i5
    have e := qv_pla (z := z) (t := t) i1 (by omega)
    refine ⟨a1, Act_tr i2 a2 (Or.inl i3), e.trans i3, fun y hy => ?_, ?_⟩
    · show plR (plI ρ z t k) z t (14 + 3 * y) 2 = _ ∧ _
      rw [plR_tun (by omega) (by omega)]
      exact i4 y hy
    · show ¬ plR (plI ρ z t k) z t (14 + 3 * t) 2 = 0
      rw [plR_len (by omega) (by omega)]
      exact i5
end IX
