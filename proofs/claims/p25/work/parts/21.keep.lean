/-! Every call keeps the invariant -/
def gKp (ρ : gSt) (N : Nat) : Prop := ∃ T S d : Nat, Inv ρ N T S d
section KP
variable {ρ σ : gSt} {N T S d T' S' d' : Nat}
theorem str_cg {z : Nat} (h : strI ρ N z) (h1 : σ (32 + 2 * z) 1 = ρ (32 + 2 * z) 1) (h2 : ∀ t, t < 6 → σ (33 + 2 * z) t = ρ (33 + 2 * z) t) : strI σ (N + 1) z := by
  obtain ⟨⟨u, hu, eu⟩, hh⟩ := h
  refine ⟨⟨u, hu, h1.trans eu⟩, fun t ht => ?_⟩
  obtain ⟨q, hq, e⟩ := hh t ht
  exact ⟨q, by omega, (h2 t ht).trans e⟩
theorem Inv_mk (hI : Inv ρ N T S d) (hN : N < 600) (h5 : σ 0 5 = nI T') (hT6 : T' ≤ 6) (h6 : σ 0 6 = nI S') (hS8 : S' ≤ 8) (h7 : σ 0 7 = nI d') (hd' : d' ≤ d + 60) (hTu : ∀ t, t < 6 → tunI σ t) (hSt : ∀ z, z < 8 → strI σ (N + 1) z) (hPi : ∀ i, i < 12 → pipI σ 1 i) (hZ : ∀ z, S' ≤ z → z < 8 → ∀ t, t < 6 → σ (33 + 2 * z) t = 0) (hHd : ∀ z, z < 8 → ∀ t, T' ≤ t → t < 6 → σ (33 + 2 * z) t = 0) : gKp σ (N + 1) := by
  have h9 := hI.2.2.2.2.2.1
  exact ⟨T', S', d', h5, hT6, h6, hS8, h7, by omega, by omega, hTu, hSt, hPi, hZ, hHd⟩
theorem Inv_fr (hI : Inv ρ N T S d) (hN : N < 600) (hfr : ∀ k, (1 < k ∧ k ≤ 5) ∨ 14 ≤ k → σ k = ρ k) (h5 : σ 0 5 = nI T') (hT' : T ≤ T' ∧ T' ≤ 6) (h6 : σ 0 6 = nI S') (hS' : S ≤ S' ∧ S' ≤ 8) (h7 : σ 0 7 = nI d') (hd' : d' ≤ d + 60) : gKp σ (N + 1) := by
  obtain ⟨hT, hT6, hS, hS8, hd, hdN, hN6, hTu, hSt, hPi, hZ, hHd⟩ := id hI
  refine Inv_mk hI hN h5 hT'.2 h6 hS'.2 h7 hd' (fun t ht => tun_cg (hTu t ht) (fun k h1 h2 => hfr k (by omega))) (fun z hz => str_cg (hSt z hz) (by rw [hfr _ (by omega)]) (fun t _ => by rw [hfr _ (by omega)])) (fun i hi => pip_cg (hPi i hi) (by rw [hfr _ (by omega)]) (by rw [hfr _ (by omega)]) (by rw [hfr _ (by omega)]) (by rw [hfr _ (by omega)])) (fun z h1 h2 t ht => ?_) (fun z hz t h1 h2 => ?_)
  · rw [hfr _ (by omega)]
    exact hZ z (by omega) h2 t ht
  · rw [hfr _ (by omega)]
    exact hHd z hz t (by omega) h2
theorem kp_0 (h : gKp ρ N) (hN : N < 600) : gKp ρ (N + 1) := by
  obtain ⟨T, S, d, hI⟩ := h
  obtain ⟨hT, hT6, hS, hS8, hd, hdN, hN6, hTu, hSt, hPi, hZ, hHd⟩ := id hI
  exact Inv_fr hI hN (fun _ _ => rfl) hT (by omega) hS (by omega) hd (by omega)
theorem kp_bar (h : gKp ρ N) (hN : N < 600) : gKp (barF ρ).2.2 (N + 1) := by
  unfold barF
  by_cases h6 : ρ 0 5 = 6
  · rw [if_pos h6]
    exact kp_0 h hN
  · obtain ⟨T, S, d, hI⟩ := h
    obtain ⟨hT, hT6, hS, hS8, hd, hdN, hN6, hTu, hSt, hPi, hZ, hHd⟩ := id hI
    have hT5 : T < 6 := by
      rcases Nat.lt_or_ge T 6 with q | q
      · exact q
      · exact absurd (by rw [hT, show T = 6 by omega]; rfl) h6
    rw [if_neg h6]
    try dsimp only
    exact Inv_fr (T' := T + 1) hI hN (fun k hk => funext fun j => up2_k (by omega)) (by rw [hT]; exact up2_s.trans (nI_1 T)) (by omega) ((up2_j (by decide)).trans hS) (by omega) ((up2_j (by decide)).trans hd) (by omega)
theorem pin_tun {t q L : Nat} (hq : q < 12) (hL : ρ (14 + 3 * t) 2 = nI L) (hL16 : L < 16) (hLn : ∀ k, k < L → ∃ q : Nat, q < 12 ∧ ρ (15 + 3 * t) k = nI q) (hLc : ∀ q, q < 12 → ρ (16 + 3 * t) q = cntI (ρ (15 + 3 * t)) (nI q) L) : tunI (up2 (up2 (up2 ρ (15 + 3 * t) L (nI q)) (16 + 3 * t) q (ρ (16 + 3 * t) q + 1)) (14 + 3 * t) 2 (nI L + 1)) t := by
  have e5 : ∀ k, up2 (up2 (up2 ρ (15 + 3 * t) L (nI q)) (16 + 3 * t) q (ρ (16 + 3 * t) q + 1)) (14 + 3 * t) 2 (nI L + 1) (15 + 3 * t) k = if k = L then nI q else ρ (15 + 3 * t) k := fun k => by
    rw [up2_k (by omega), up2_k (by omega), up2_e]
    by_cases h : k = L
    · rw [if_pos ⟨rfl, h⟩, if_pos h]
    · rw [if_neg (fun h9 => h h9.2), if_neg h]
  refine ⟨L + 1, up2_s.trans (nI_1 L), by omega, fun k hk => ?_, fun q2 hq2 => ?_⟩
  · rw [e5]
    by_cases h : k = L
    · rw [if_pos h]
      exact ⟨q, hq, rfl⟩
    · rw [if_neg h]
      exact hLn k (by omega)
  · have e6 : cntI (up2 (up2 (up2 ρ (15 + 3 * t) L (nI q)) (16 + 3 * t) q (ρ (16 + 3 * t) q + 1)) (14 + 3 * t) 2 (nI L + 1) (15 + 3 * t)) (nI q2) L = cntI (ρ (15 + 3 * t)) (nI q2) L := sumI_congr (fun j hj => by simp only [e5, if_neg (show ¬ j = L by omega)])
    rw [cntI_s, e6, e5, if_pos rfl, up2_k (by omega), up2_e, ← hLc q2 hq2]
    by_cases h : q2 = q
    · subst h
      rw [if_pos ⟨rfl, rfl⟩, if_pos rfl]
    · rw [if_neg (fun h9 => h h9.2), if_neg (nI_ne (fun h9 => h h9.symm) (by omega) (by omega)), up2_k (by omega), Int32.add_zero]
theorem kp_pin {x y : Int32} (h : gKp ρ N) (hN : N < 600) : gKp (pinF ρ x y).2.2 (N + 1) := by
  unfold pinF
  by_cases h1 : inb x (ρ 0 5)
  · rw [if_pos h1]
    by_cases h2 : inb y 12
    · rw [if_pos h2]
      by_cases h3 : ρ (14 + 3 * ix x) 2 = 16
      · rw [if_pos h3]
        exact kp_0 h hN
      · rw [if_neg h3]
        obtain ⟨T, S, d, hI⟩ := h
        obtain ⟨hT, hT6, hS, hS8, hd, hdN, hN6, hTu, hSt, hPi, hZ, hHd⟩ := id hI
        obtain ⟨t, ht, rfl⟩ := inb_N hT (by omega) h1
        obtain ⟨q, hq, rfl⟩ := inb_N (T := 12) rfl (by omega) h2
        obtain ⟨L, hL, hL16, hLn, hLc⟩ := hTu t (by omega)
        rw [show ix (nI t) = t from nI_clamp (by omega)] at h3 ⊢
        rw [show ix (nI q) = q from nI_clamp (by omega), hL, show ix (nI L) = L from nI_clamp (by omega)]
        have hL15 : L < 16 := by
          rcases Nat.lt_or_ge L 16 with q9 | q9
          · exact q9
          · exact absurd (by rw [hL, show L = 16 by omega]; rfl) h3
        have e : ∀ k j, k < 14 + 3 * t ∨ 16 + 3 * t < k → up2 (up2 (up2 ρ (15 + 3 * t) L (nI q)) (16 + 3 * t) q (ρ (16 + 3 * t) q + 1)) (14 + 3 * t) 2 (nI L + 1) k j = ρ k j := fun k j hk => by rw [up2_k (by omega), up2_k (by omega), up2_k (by omega)]
        try dsimp only
        refine Inv_mk hI hN ((e 0 5 (by omega)).trans hT) hT6 ((e 0 6 (by omega)).trans hS) hS8 ((e 0 7 (by omega)).trans hd) (by omega) (fun t2 ht2 => ?_) (fun z hz => str_cg (hSt z hz) (e _ _ (by omega)) (fun t2 _ => e _ _ (by omega))) (fun i hi => pip_cg (hPi i hi) (e _ _ (by omega)) (e _ _ (by omega)) (e _ _ (by omega)) (e _ _ (by omega))) (fun z h8 h9 t2 ht2 => (e _ _ (by omega)).trans (hZ z h8 h9 t2 ht2)) (fun z hz t2 h8 h9 => (e _ _ (by omega)).trans (hHd z hz t2 h8 h9))
        by_cases h7 : t2 = t
        · subst h7
          exact pin_tun hq hL hL15 hLn hLc
        · exact tun_cg (hTu t2 ht2) (fun k h8 h9 => funext fun j => e k j (by omega))
    · rw [if_neg h2]
      exact kp_0 h hN
  · rw [if_neg h1]
    exact kp_0 h hN
theorem kp_not {x y : Int32} (h : gKp ρ N) (hN : N < 600) : gKp (notF ρ x y).2.2 (N + 1) := by
  unfold notF
  repeat' split
  all_goals exact kp_0 h hN
theorem kp_str {x y : Int32} (h : gKp ρ N) (hN : N < 600) : gKp (strF ρ x y).2.2 (N + 1) := by
  unfold strF
  by_cases h1 : inl x 90
  · rw [if_pos h1]
    by_cases h2 : inl y 127
    · rw [if_pos h2]
      by_cases h3 : ρ 0 6 = 8
      · rw [if_pos h3]
        exact kp_0 h hN
      · rw [if_neg h3]
        obtain ⟨T, S, d, hI⟩ := h
        obtain ⟨hT, hT6, hS, hS8, hd, hdN, hN6, hTu, hSt, hPi, hZ, hHd⟩ := id hI
        have hS7 : S < 8 := by
          rcases Nat.lt_or_ge S 8 with q9 | q9
          · exact q9
          · exact absurd (by rw [hS, show S = 8 by omega]; rfl) h3
        obtain ⟨u, hu, rfl⟩ := inl_N (K := 90) rfl (by omega) h1
        rw [hS, show ix (nI S) = S from nI_clamp (by omega)]
        have e : ∀ k j, k ≠ 0 → k ≠ 32 + 2 * S → up2 (up2 (up2 ρ (32 + 2 * S) 1 (nI u)) (32 + 2 * S) 2 y) 0 6 (nI S + 1) k j = ρ k j := fun k j hk hk2 => by rw [up2_k (by omega), up2_k (by omega), up2_k (by omega)]
        have e0 : ∀ j, j ≠ 6 → up2 (up2 (up2 ρ (32 + 2 * S) 1 (nI u)) (32 + 2 * S) 2 y) 0 6 (nI S + 1) 0 j = ρ 0 j := fun j hj => by rw [up2_j hj, up2_k (by omega), up2_k (by omega)]
        try dsimp only
        refine Inv_mk (S' := S + 1) hI hN ((e0 5 (by omega)).trans hT) hT6 (up2_s.trans (nI_1 S)) (by omega) ((e0 7 (by omega)).trans hd) (by omega) (fun t ht => tun_cg (hTu t ht) (fun k h8 h9 => funext fun j => e k j (by omega) (by omega))) (fun z hz => ?_) (fun i hi => pip_cg (hPi i hi) (e _ _ (by omega) (by omega)) (e _ _ (by omega) (by omega)) (e _ _ (by omega) (by omega)) (e _ _ (by omega) (by omega))) (fun z h8 h9 t ht => (e _ _ (by omega) (by omega)).trans (hZ z (by omega) h9 t ht)) (fun z hz t h8 h9 => (e _ _ (by omega) (by omega)).trans (hHd z hz t h8 h9))
        by_cases h7 : z = S
        · subst h7
          refine ⟨⟨u, hu, ?_⟩, fun t ht => ?_⟩
          · rw [up2_k (by omega), up2_j (by decide), up2_s]
          · obtain ⟨q, hq, e9⟩ := (hSt z hz).2 t ht
            exact ⟨q, by omega, (e _ _ (by omega) (by omega)).trans e9⟩
        · exact str_cg (hSt z hz) (e _ _ (by omega) (by omega)) (fun t _ => e _ _ (by omega) (by omega))
    · rw [if_neg h2]
      exact kp_0 h hN
  · rw [if_neg h1]
    exact kp_0 h hN
theorem kp_per {x y : Int32} (h : gKp ρ N) (hN : N < 600) : gKp (perF ρ x y).2.2 (N + 1) := by
  unfold perF
  by_cases h1 : inb x (ρ 0 6)
  · rw [if_pos h1]
    by_cases h2 : inl y 127
    · rw [if_pos h2]
      obtain ⟨T, S, d, hI⟩ := h
      obtain ⟨hT, hT6, hS, hS8, hd, hdN, hN6, hTu, hSt, hPi, hZ, hHd⟩ := id hI
      obtain ⟨z, hz, rfl⟩ := inb_N hS (by omega) h1
      rw [show ix (nI z) = z from nI_clamp (by omega)]
      have e : ∀ k j, k ≠ 32 + 2 * z ∨ j ≠ 2 → up2 ρ (32 + 2 * z) 2 y k j = ρ k j := fun k j hk => by
        rw [up2_e, if_neg (by omega)]
      try dsimp only
      exact Inv_mk hI hN ((e 0 5 (by omega)).trans hT) hT6 ((e 0 6 (by omega)).trans hS) hS8 ((e 0 7 (by omega)).trans hd) (by omega) (fun t ht => tun_cg (hTu t ht) (fun k h8 h9 => funext fun j => e k j (by omega))) (fun z2 hz2 => str_cg (hSt z2 hz2) (e _ _ (by omega)) (fun t _ => e _ _ (by omega))) (fun i hi => pip_cg (hPi i hi) (e _ _ (by omega)) (e _ _ (by omega)) (e _ _ (by omega)) (e _ _ (by omega))) (fun z2 h8 h9 t ht => (e _ _ (by omega)).trans (hZ z2 h8 h9 t ht)) (fun z2 hz2 t h8 h9 => (e _ _ (by omega)).trans (hHd z2 hz2 t h8 h9))
    · rw [if_neg h2]
      exact kp_0 h hN
  · rw [if_neg h1]
    exact kp_0 h hN
theorem kp_dam {x y : Int32} (h : gKp ρ N) (hN : N < 600) : gKp (damF ρ x y).2.2 (N + 1) := by
  unfold damF
  by_cases h1 : inb x 7
  · rw [if_pos h1]
    by_cases h2 : inl y 5
    · rw [if_pos h2]
      obtain ⟨T, S, d, hI⟩ := h
      obtain ⟨hT, hT6, hS, hS8, hd, hdN, hN6, hTu, hSt, hPi, hZ, hHd⟩ := id hI
      try dsimp only
      exact Inv_fr hI hN (fun k hk => funext fun j => up2_k (by omega)) ((up2_k (by omega)).trans hT) (by omega) ((up2_k (by omega)).trans hS) (by omega) ((up2_k (by omega)).trans hd) (by omega)
    · rw [if_neg h2]
      exact kp_0 h hN
  · rw [if_neg h1]
    exact kp_0 h hN
theorem kp_ply {z t : Nat} (hI : Inv ρ N T S d) (hN : N < 600) (hz : z < S) (ht : t < T) : gKp (plyR ρ z t) (N + 1) := by
  obtain ⟨hT, hT6, hS, hS8, hd, hdN, hN6, hTu, hSt, hPi, hZ, hHd⟩ := id hI
  unfold plyR
  obtain ⟨v1, e1⟩ : ∃ q, q = ρ 0 8 + pyN ρ z t := ⟨_, rfl⟩
  obtain ⟨v2, e2⟩ : ∃ q, q = ρ (32 + 2 * z) 3 + pyN ρ z t := ⟨_, rfl⟩
  rw [← e1, ← e2]
  obtain ⟨R, eR⟩ : ∃ q, q = up2 (up2 (up2 ρ 0 8 v1) (32 + 2 * z) 3 v2) (33 + 2 * z) t (ρ (33 + 2 * z) t + 1) := ⟨_, rfl⟩
  rw [← eR]
  have r : ∀ k j, ¬ (k = 0 ∧ j = 8) → ¬ (k = 32 + 2 * z ∧ j = 3) → ¬ (k = 33 + 2 * z ∧ j = t) → R k j = ρ k j := fun k j h1 h2 h3 => by
    rw [eR, up2_e, if_neg h3, up2_e, if_neg h2, up2_e, if_neg h1]
  have o : ∀ k j, k ≠ 2 → k ≠ 5 → ¬ (k = 0 ∧ j = 8) → ¬ (k = 32 + 2 * z ∧ j = 3) → ¬ (k = 33 + 2 * z ∧ j = t) → wdR R 1 t 12 k j = ρ k j := fun k j h1 h2 h3 h4 h5 => by
    rw [wd_out (by omega) (by omega)]
    exact r k j h3 h4 h5
  have tu : ∀ t2, t2 < 6 → tunI R t2 := fun t2 ht2 => tun_cg (hTu t2 ht2) (fun k h8 h9 => funext fun j => r k j (by omega) (by omega) (by omega))
  try dsimp only
  refine Inv_mk hI hN ((o 0 5 (by omega) (by omega) (by omega) (by omega) (by omega)).trans hT) hT6 ((o 0 6 (by omega) (by omega) (by omega) (by omega) (by omega)).trans hS) hS8 ((o 0 7 (by omega) (by omega) (by omega) (by omega) (by omega)).trans hd) (by omega) (fun t2 ht2 => tun_cg (tu t2 ht2) (fun k h8 h9 => wd_out (by omega) (by omega))) (fun z2 hz2 => ?_) (fun i hi => wd_pip (tu t (by omega)) hi (pip_cg (hPi i hi) (r _ _ (by omega) (by omega) (by omega)) (r _ _ (by omega) (by omega) (by omega)) (r _ _ (by omega) (by omega) (by omega)) (r _ _ (by omega) (by omega) (by omega)))) (fun z2 h8 h9 t2 ht2 => (o _ _ (by omega) (by omega) (by omega) (by omega) (by omega)).trans (hZ z2 h8 h9 t2 ht2)) (fun z2 hz2 t2 h8 h9 => (o _ _ (by omega) (by omega) (by omega) (by omega) (by omega)).trans (hHd z2 hz2 t2 h8 h9))
  by_cases h7 : z2 = z
  · subst h7
    obtain ⟨⟨u, hu, eu⟩, hh⟩ := hSt z2 hz2
    refine ⟨⟨u, hu, (o _ _ (by omega) (by omega) (by omega) (by omega) (by omega)).trans eu⟩, fun t2 ht2 => ?_⟩
    obtain ⟨q, hq, e9⟩ := hh t2 ht2
    by_cases h6 : t2 = t
    · subst h6
      refine ⟨q + 1, by omega, ?_⟩
      rw [wd_out (by omega) (by omega), eR, up2_s, e9, nI_1]
    · exact ⟨q, by omega, (o _ _ (by omega) (by omega) (by omega) (by omega) (by omega)).trans e9⟩
  · exact str_cg (hSt z2 hz2) (o _ _ (by omega) (by omega) (by omega) (by omega) (by omega)) (fun t2 _ => o _ _ (by omega) (by omega) (by omega) (by omega) (by omega))
theorem kp_pla {x y : Int32} (h : gKp ρ N) (hN : N < 600) : gKp (plaF ρ x y).2.2 (N + 1) := by
  unfold plaF
  by_cases h1 : inb x (ρ 0 6)
  · rw [if_pos h1]
    by_cases h2 : inb y (ρ 0 5)
    · rw [if_pos h2]
      by_cases h3 : ρ (14 + 3 * ix y) 2 = 0
      · rw [if_pos h3]
        exact kp_0 h hN
      · rw [if_neg h3]
        obtain ⟨T, S, d, hI⟩ := h
        obtain ⟨hT, hT6, hS, hS8, hd, hdN, hN6, hTu, hSt, hPi, hZ, hHd⟩ := id hI
        by_cases h4 : pmF (ρ (32 + 2 * ix x) 2) (wdF ρ) = 0
        · rw [if_pos h4]
          have e0 : ∀ j, j ≠ 8 → j ≠ 9 → finR ρ 0 j = ρ 0 j := fun j h8 h9 => (up2_j h9).trans (up2_j h8)
          try dsimp only
          exact Inv_fr hI hN (fun k hk => funext fun j => (up2_k (by omega)).trans (up2_k (by omega))) ((e0 5 (by omega) (by omega)).trans hT) (by omega) ((e0 6 (by omega) (by omega)).trans hS) (by omega) ((e0 7 (by omega) (by omega)).trans hd) (by omega)
        · rw [if_neg h4]
          obtain ⟨z, hz, rfl⟩ := inb_N hS (by omega) h1
          obtain ⟨t, ht, rfl⟩ := inb_N hT (by omega) h2
          rw [show ix (nI z) = z from nI_clamp (by omega), show ix (nI t) = t from nI_clamp (by omega)]
          exact kp_ply hI hN hz ht
    · rw [if_neg h2]
      exact kp_0 h hN
  · rw [if_neg h1]
    exact kp_0 h hN
theorem Inv_pip (hI : Inv ρ N T S d) (hN : N < 600) (h0 : ∀ j, j ≠ 8 → σ 0 j = ρ 0 j) (hfr : ∀ k, 14 ≤ k → σ k = ρ k) (hPi : ∀ i, i < 12 → pipI σ 1 i) : gKp σ (N + 1) := by
  obtain ⟨hT, hT6, hS, hS8, hd, hdN, hN6, hTu, hSt, hPi2, hZ, hHd⟩ := id hI
  try dsimp only
  exact Inv_mk hI hN ((h0 5 (by omega)).trans hT) hT6 ((h0 6 (by omega)).trans hS) hS8 ((h0 7 (by omega)).trans hd) (by omega) (fun t ht => tun_cg (hTu t ht) (fun k h1 h2 => hfr k (by omega))) (fun z hz => str_cg (hSt z hz) (by rw [hfr _ (by omega)]) (fun t _ => by rw [hfr _ (by omega)])) hPi (fun z h1 h2 t ht => by rw [hfr _ (by omega)]; exact hZ z h1 h2 t ht) (fun z hz t h1 h2 => by rw [hfr _ (by omega)]; exact hHd z hz t h1 h2)
theorem kp_tun {x y : Int32} (h : gKp ρ N) (hN : N < 600) : gKp (tunF ρ x y).2.2 (N + 1) := by
  unfold tunF
  by_cases h1 : inb x 12
  · rw [if_pos h1]
    by_cases h2 : ¬ y < -120 ∧ y ≤ 120
    · rw [if_pos h2]
      obtain ⟨T, S, d, hI⟩ := h
      try dsimp only
      refine Inv_pip hI hN (fun j _ => up2_k (by omega)) (fun k hk => funext fun j => up2_k (by omega)) (fun i hi => ?_)
      obtain ⟨hw, ho, hc, hs⟩ := hI.2.2.2.2.2.2.2.2.2.1 i hi
      unfold pipI
      rw [up2_k (a := 1 + 1) (by omega), up2_k (a := 1 + 3) (by omega), up2_k (a := 1 + 4) (by omega)]
      refine ⟨hw, ?_, hc, hs⟩
      rw [up2_e]
      split
      · exact hd_b
      · exact ho
    · rw [if_neg h2]
      exact kp_0 h hN
  · rw [if_neg h1]
    exact kp_0 h hN
theorem kp_fel {x : Int32} (h : gKp ρ N) (hN : N < 600) : gKp (felF ρ x).2.2 (N + 1) := by
  unfold felF
  by_cases h1 : inb x 12
  · rw [if_pos h1]
    by_cases h2 : ρ 0 8 < 4
    · rw [if_pos h2]
      exact kp_0 h hN
    · rw [if_neg h2]
      obtain ⟨T, S, d, hI⟩ := h
      try dsimp only
      refine Inv_pip hI hN (fun j hj => (up2_k (by omega)).trans (up2_j hj)) (fun k hk => funext fun j => (up2_k (by omega)).trans (up2_k (by omega))) (fun i hi => ?_)
      obtain ⟨hw, ho, hc, hs⟩ := hI.2.2.2.2.2.2.2.2.2.1 i hi
      unfold pipI
      rw [up2_k (a := 1 + 2) (by omega), up2_k (a := 1 + 2) (by omega), up2_k (a := 1 + 3) (by omega), up2_k (a := 1 + 3) (by omega), up2_k (a := 1 + 4) (by omega), up2_k (a := 1 + 4) (by omega)]
      refine ⟨?_, ho, hc, hs⟩
      rw [up2_e]
      split
      · exact ⟨0, by omega, rfl⟩
      · rw [up2_k (by omega)]
        exact hw
  · rw [if_neg h1]
    exact kp_0 h hN
theorem kp_cha (h : gKp ρ N) (hN : N < 600) : gKp (clrR ρ 1 12) (N + 1) := by
  obtain ⟨T, S, d, hI⟩ := h
  have e : ∀ k j, k ≠ 4 → clrR ρ 1 12 k j = ρ k j := fun k j hk => by
    unfold clrR
    rw [if_neg (by omega)]
  try dsimp only
  refine Inv_pip hI hN (fun j hj => e _ _ (by omega)) (fun k hk => funext fun j => e _ _ (by omega)) (fun i hi => ?_)
  obtain ⟨hw, ho, hc, hs⟩ := hI.2.2.2.2.2.2.2.2.2.1 i hi
  unfold pipI
  rw [e _ _ (by omega), e _ _ (by omega), e (1 + 4) _ (by omega)]
  refine ⟨hw, ho, Or.inl ?_, hs⟩
  unfold clrR
  rw [if_pos ⟨rfl, hi⟩]
theorem kp_res {x : Int32} (h : gKp ρ N) (hN : N < 600) : gKp (resF ρ x).2.2 (N + 1) := by
  unfold resF
  by_cases h1 : ¬ x < 1 ∧ x ≤ 60
  · rw [if_pos h1]
    obtain ⟨T, S, d, hI⟩ := h
    obtain ⟨hT, hT6, hS, hS8, hd, hdN, hN6, hTu, hSt, hPi, hZ, hHd⟩ := id hI
    obtain ⟨n, hn, rfl⟩ := nig_N h1
    unfold resR
    rw [hd, hS, show ix (nI d) = d from nI_clamp (by omega), show ix (nI S) = S from nI_clamp (by omega), show ix (nI n) = n from nI_clamp (by omega)]
    have e : ∀ k j, ¬ (k = 0 ∧ j = 7) → k < 33 ∨ k % 2 = 0 → up2 (fgA (nsR ρ 1 d n) S) 0 7 (nI (d + n)) k j = nsR ρ 1 d n k j := fun k j h2 h3 => by
      rw [up2_e, if_neg h2]
      unfold fgA
      rw [if_neg (by omega)]
    have eh : ∀ z t, t < 6 → up2 (fgA (nsR ρ 1 d n) S) 0 7 (nI (d + n)) (33 + 2 * z) t = if z < S then 0 else ρ (33 + 2 * z) t := fun z t ht => by
      rw [up2_k (by omega)]
      unfold fgA
      by_cases h9 : z < S
      · rw [if_pos h9, if_pos (by omega)]
      · rw [if_neg h9, if_neg (by omega), nsR_out (k := 33 + 2 * z) (by omega)]
    have f : ∀ k j, ¬ (k = 0 ∧ j = 7) → (k < 33 ∨ k % 2 = 0) → (k < 3 ∨ 5 < k) → up2 (fgA (nsR ρ 1 d n) S) 0 7 (nI (d + n)) k j = ρ k j := fun k j h2 h3 h4 => by
      rw [e k j h2 h3, nsR_out (k := k) (by omega)]
    try dsimp only
    refine Inv_mk (d' := d + n) hI hN ((f 0 5 (by omega) (by omega) (by omega)).trans hT) hT6 ((f 0 6 (by omega) (by omega) (by omega)).trans hS) hS8 up2_s (by omega) (fun t ht => tun_cg (hTu t ht) (fun k h8 h9 => funext fun j => f k j (by omega) (by omega) (by omega))) (fun z hz => ?_) (fun i hi => pip_cg (ns_pip (d := d) (n := n) (hPi i hi)) (e _ _ (by omega) (by omega)) (e _ _ (by omega) (by omega)) (e _ _ (by omega) (by omega)) (e _ _ (by omega) (by omega))) (fun z h8 h9 t ht => ?_) (fun z hz t h8 h9 => ?_)
    · obtain ⟨⟨u, hu, eu⟩, hh⟩ := hSt z hz
      refine ⟨⟨u, hu, (f _ _ (by omega) (by omega) (by omega)).trans eu⟩, fun t ht => ?_⟩
      obtain ⟨q, hq, e9⟩ := hh t ht
      rw [eh z t ht]
      split
      · exact ⟨0, by omega, rfl⟩
      · exact ⟨q, by omega, e9⟩
    · rw [eh z t ht, if_neg (by omega)]
      exact hZ z h8 h9 t ht
    · rw [eh z t h9]
      split
      · rfl
      · exact hHd z hz t h8 h9
  · rw [if_neg h1]
    exact kp_0 h hN
theorem kp_for {x y : Int32} (h : gKp ρ N) (hN : N < 600) : gKp (forF ρ x y).2.2 (N + 1) := by
  unfold forF
  by_cases h1 : ¬ x < 1 ∧ x ≤ 60
  · rw [if_pos h1]
    by_cases h2 : ¬ y < 5 ∧ y ≤ 7
    · rw [if_pos h2]
      obtain ⟨T, S, d, hI⟩ := h
      obtain ⟨hT, hT6, hS, hS8, hd, hdN, hN6, hTu, hSt, hPi, hZ, hHd⟩ := id hI
      have e : ∀ k, k ≤ 5 ∨ 14 ≤ k → forR ρ (ix x) k = ρ k := fun k hk => by
        unfold forR
        rw [nsR_out (k := k) (by omega), bec_out (by omega)]
      try dsimp only
      exact Inv_fr hI hN (fun k hk => e k (by omega)) (by rw [e 0 (by omega)]; exact hT) (by omega) (by rw [e 0 (by omega)]; exact hS) (by omega) (by rw [e 0 (by omega)]; exact hd) (by omega)
    · rw [if_neg h2]
      exact kp_0 h hN
  · rw [if_neg h1]
    exact kp_0 h hN
theorem kp_las {x : Int32} (h : gKp ρ N) (hN : N < 600) : gKp (lasF ρ x).2.2 (N + 1) := by
  unfold lasF
  by_cases h1 : inb x (ρ 0 5)
  · rw [if_pos h1]
    obtain ⟨T, S, d, hI⟩ := h
    obtain ⟨hT, hT6, hS, hS8, hd, hdN, hN6, hTu, hSt, hPi, hZ, hHd⟩ := id hI
    have e : ∀ k, k ≤ 5 ∨ 14 ≤ k → trR ρ (ix x) (laK ρ (ix x) 99 0) k = ρ k := fun k hk => tr_out (by omega)
    try dsimp only
    exact Inv_fr hI hN (fun k hk => e k (by omega)) (by rw [e 0 (by omega)]; exact hT) (by omega) (by rw [e 0 (by omega)]; exact hS) (by omega) (by rw [e 0 (by omega)]; exact hd) (by omega)
  · rw [if_neg h1]
    exact kp_0 h hN
theorem kp_pip {x y : Int32} (h : gKp ρ N) (hN : N < 600) : gKp (pipF ρ x y).2.2 (N + 1) := by
  unfold pipF
  repeat' split
  all_goals exact kp_0 h hN
theorem kp_sou {x : Int32} (h : gKp ρ N) (hN : N < 600) : gKp (souF ρ x).2.2 (N + 1) := by
  unfold souF
  repeat' split
  all_goals exact kp_0 h hN
theorem kp_tol {x y : Int32} (h : gKp ρ N) (hN : N < 600) : gKp (tolF ρ x y).2.2 (N + 1) := by
  unfold tolF
  repeat' split
  all_goals exact kp_0 h hN
theorem kp_cou {x : Int32} (h : gKp ρ N) (hN : N < 600) : gKp (couF ρ x).2.2 (N + 1) := by
  unfold couF
  repeat' split
  all_goals exact kp_0 h hN
theorem kp_pay {x y : Int32} (h : gKp ρ N) (hN : N < 600) : gKp (payF ρ x y).2.2 (N + 1) := by
  unfold payF
  repeat' split
  all_goals exact kp_0 h hN
theorem kp_bes {x : Int32} (h : gKp ρ N) (hN : N < 600) : gKp (besF ρ x).2.2 (N + 1) := by
  unfold besF
  repeat' split
  all_goals exact kp_0 h hN
theorem kp_wor {x : Int32} (h : gKp ρ N) (hN : N < 600) : gKp (worF ρ x).2.2 (N + 1) := by
  unfold worF
  repeat' split
  all_goals exact kp_0 h hN
end KP
