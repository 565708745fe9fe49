/-! What the law needs of the plain functions -/
/-- all but the trial's rows alike -/
def Apart (ρ σ : gSt) : Prop := ∀ k, k ≤ 6 ∨ 10 < k → σ k = ρ k
section LP
variable {ρ σ τ : gSt} {N T S d t z q k i : Nat} {Ln : Nat → Nat}
theorem Apart.rf : Apart ρ ρ := fun _ _ => rfl
theorem Apart.tr (h : Apart ρ σ) (h2 : Apart σ τ) : Apart ρ τ := fun k hk => (h2 k hk).trans (h k hk)
theorem apart_tr {n : Nat} : Apart ρ (trR ρ t n) := fun k hk => tr_out hk
theorem Apart.tun (h : Apart ρ σ) (ht : tunI ρ t) : tunI σ t := tun_cg ht (fun k h1 h2 => h k (by omega))
theorem Apart.inv (h : Apart ρ σ) (hI : Inv ρ N T S d) : Inv σ N T S d := by
  obtain ⟨hT, hT6, hS, hS8, hd, hdN, hN, hTu, hSt, hPi, hZ, hHd⟩ := hI
  refine ⟨by rw [h 0 (by omega)]; exact hT, hT6, by rw [h 0 (by omega)]; exact hS, hS8, by rw [h 0 (by omega)]; exact hd, hdN, hN, fun t ht => h.tun (hTu t ht), fun z hz => ?_, fun i hi => pip_cg (hPi i hi) (by rw [h 2 (by omega)]) (by rw [h 3 (by omega)]) (by rw [h 4 (by omega)]) (by rw [h 5 (by omega)]), fun z h1 h2 t ht => by rw [h _ (by omega)]; exact hZ z h1 h2 t ht, fun z hz t h1 h2 => by rw [h _ (by omega)]; exact hHd z hz t h1 h2⟩
  unfold strI
  rw [h (32 + 2 * z) (by omega), h (33 + 2 * z) (by omega)]
  exact hSt z hz
theorem Apart.inx (h : Apart ρ σ) (hX : Inx ρ N T S d) : Inx σ N T S d := by
  obtain ⟨hI, g2, g3, g4, g5, g6⟩ := hX
  refine ⟨h.inv hI, fun z hz => by rw [h _ (by omega)]; exact g2 z hz, fun j hj => by rw [h _ (by omega)]; exact g3 j hj, by rw [h 0 (by omega)]; exact g4, fun z h1 h2 => by rw [h _ (by omega)]; exact g5 z h1 h2, fun t h1 h2 => by rw [h _ (by omega)]; exact g6 t h1 h2⟩
theorem Apart.ln (h : Apart ρ σ) (hL : LnOK ρ T Ln) : LnOK σ T Ln := Ln_cg hL (fun t ht => h _ (by omega))
theorem Apart.sim (h : Apart ρ σ) : sR S σ = sR S ρ := sR_cg (fun j hj => by rw [h 0 (by omega)]) (fun k hk => h k (by omega))
theorem Apart.hPe (h : Apart ρ σ) (i : Nat) : hP σ 1 i = hP ρ 1 i := by
  unfold hP
  rw [h (1 + 1) (by omega), h (1 + 2) (by omega), h (1 + 3) (by omega)]
theorem Apart.snd (h : Apart ρ σ) {sp : Int32} : sndC σ 1 t sp = sndC ρ 1 t sp := by
  unfold sndC
  rw [h (14 + 3 * t) (by omega), h (16 + 3 * t) (by omega), show (fun i => if nI i = sp then 0 else ρ (16 + 3 * t) i * hP σ 1 i) = fun i => if nI i = sp then 0 else ρ (16 + 3 * t) i * hP ρ 1 i from funext fun i => by rw [h.hPe i]]
theorem Apart.py (h : Apart ρ σ) : pyN σ z t = pyN ρ z t := by
  unfold pyN payV
  rw [h.snd, h (32 + 2 * z) (by omega), h (33 + 2 * z) (by omega)]
theorem Apart.tell {w : Nat} (h : Apart ρ σ) : tellF σ 1 i w = tellF ρ 1 i w := by
  unfold tellF
  rw [h.hPe i, h (1 + 1) (by omega), h (1 + 2) (by omega), h (1 + 3) (by omega), h (1 + 4) (by omega)]
theorem Apart.wd (h : Apart ρ σ) : wdF σ = wdF ρ := by
  unfold wdF
  rw [h 0 (by omega)]
theorem Apart.told {w : Nat} (h : Apart ρ σ) : toldF σ z w (wdF σ) = toldF ρ z w (wdF ρ) := by
  rw [h.wd]
  unfold toldF hrd
  rw [h (32 + 2 * z) (by omega), h (33 + 2 * z) (by omega)]
theorem Apart.crce (h : Apart ρ σ) : crc σ 1 = crc ρ 1 := by
  unfold crc
  rw [h (1 + 3) (by omega)]
theorem Apart.count {w : Nat} (h : Apart ρ σ) : countF σ w = countF ρ w := by
  unfold countF sumUpF
  rw [h.wd, h 0 (by omega), h.crce]
  unfold wrn ofn
  rw [h (1 + 1) (by omega), h (1 + 2) (by omega)]
theorem fold1_cg {g g' : Nat → Int64 → Int64} {n : Nat} {u : Int64} (h : ∀ k u, g k u = g' k u) : fold1 g n u = fold1 g' n u := by
  rw [show g = g' from funext fun k => funext fun u => h k u]
theorem Apart.dig (h : Apart ρ σ) : digF σ = digF ρ := by
  unfold digF
  rw [h 0 (by omega), h 13 (by omega), show countF σ = countF ρ from funext fun w => h.count, show (fun i d => mxs (fun w => tellF σ 1 i w) 5 d) = fun i d => mxs (fun w => tellF ρ 1 i w) 5 d from funext fun i => funext fun d => by rw [show (fun w => tellF σ 1 i w) = fun w => tellF ρ 1 i w from funext fun w => h.tell], show mtF σ = mtF ρ from funext fun t => funext fun u => by unfold mtF; rw [h.snd, h (14 + 3 * t) (by omega), h (15 + 3 * t) (by omega)], show msF σ = msF ρ from funext fun z => funext fun u => by unfold msF; rw [show (fun t => pyN σ z t) = fun t => pyN ρ z t from funext fun t => h.py, show (fun w => toldF σ z w (wdF σ)) = fun w => toldF ρ z w (wdF ρ) from funext fun w => h.told, h 0 (by omega)]]
/-! the worst pipe -/
theorem ws_key (n : Nat) : ((wsP ρ t n).2 = -1 ∧ (wsP ρ t n).1 = sndC ρ 1 t (-1)) ∨ ∃ q, q < n ∧ (wsP ρ t n).2 = nI q ∧ (wsP ρ t n).1 = sndC ρ 1 t (nI q) ∧ sndC ρ 1 t (-1) < sndC ρ 1 t (nI q) := by
  induction n with
  | zero => exact Or.inl ⟨rfl, rfl⟩
  | succ n ih =>
    simp only [wsP]
    by_cases h : sndC ρ 1 t (nI n) ≤ (wsP ρ t n).1
    · rw [if_pos h]
      rcases ih with ih | ⟨q, hq, h1⟩
      · exact Or.inl ih
      · exact Or.inr ⟨q, by omega, h1⟩
    · rw [if_neg h]
      refine Or.inr ⟨n, by omega, rfl, rfl, ?_⟩
      have h2 := Int32.not_le.mp h
      rcases ih with ⟨_, e⟩ | ⟨q, hq, _, e, h3⟩
      · rw [e] at h2
        exact h2
      · rw [e] at h2
        exact Int32.lt_trans h3 h2
theorem wor_fact (hX : Inx ρ N T S d) (hL : LnOK ρ T Ln) (ht : t < T) : (wsP ρ t 12).2 < 0 ∨ ∃ q, q < 12 ∧ (wsP ρ t 12).2 = nI q ∧ ¬ hP ρ 1 q = 0 ∧ ¬ nI (Ln t) = 0 ∧ ¬ sumI (sdS ρ t) (Ln t) / nI (Ln t) = 0 := by
  obtain ⟨hT, hT6, hS, hS8, hd, hdN, hN, hTu, hSt, hPi, hZ, hHd⟩ := id hX.1
  have hTt := hTu t (by omega)
  rcases ws_key (ρ := ρ) (t := t) 12 with ⟨e, _⟩ | ⟨q, hq, e, _, h3⟩
  · exact Or.inl (by rw [e]; decide)
  · refine Or.inr ⟨q, hq, e, fun h0 => ?_, fun h0 => ?_, fun h0 => ?_⟩
    · obtain ⟨hLn, hLc⟩ := tunL hTt (hL t ht)
      rw [snd_eq (hL t ht).1 (hL t ht).2 hLn hLc, snd_eq (hL t ht).1 (hL t ht).2 hLn hLc] at h3
      have e9 : sumI (fun k => if ρ (15 + 3 * t) k = -1 then 0 else hP ρ 1 (ix (ρ (15 + 3 * t) k))) (Ln t) = sumI (fun k => if ρ (15 + 3 * t) k = nI q then 0 else hP ρ 1 (ix (ρ (15 + 3 * t) k))) (Ln t) := sumI_congr (fun j hj => by
        obtain ⟨r, hr, er⟩ := hLn j hj
        rw [if_neg (fun h => by
          rw [er] at h
          have h2 := congrArg Int32.toInt h
          rw [nI_toInt (by omega)] at h2
          have e1 : (-1 : Int32).toInt = -1 := by decide
          rw [e1] at h2
          omega)]
        by_cases h9 : ρ (15 + 3 * t) j = nI q
        · rw [if_pos h9, h9, show ix (nI q) = q from nI_clamp (by omega)]
          exact h0
        · rw [if_neg h9])
      rw [e9] at h3
      exact Int32.lt_irrefl h3
    · unfold sndC at h3
      rw [(hL t ht).1, if_pos h0, if_pos h0] at h3
      exact Int32.lt_irrefl h3
    · by_cases hz : nI (Ln t) = 0
      · unfold sndC at h3
        rw [(hL t ht).1, if_pos hz, if_pos hz] at h3
        exact Int32.lt_irrefl h3
      · rw [snd_sim hTt (hL t ht), if_neg hz, h0] at h3
        obtain ⟨u, hu, eu⟩ := snd_N (sp := nI q) hTt hPi
        rw [eu, show (60 : Int32) - 0 = nI 60 from rfl, nI_ltI (by omega) (by omega)] at h3
        omega
/-! how long a tune lasts -/
theorem la_bd (f k : Nat) : k ≤ laK ρ t f k ∧ laK ρ t f k ≤ k + f := by
  induction f generalizing k with
  | zero => exact ⟨Nat.le_refl _, Nat.le_refl _⟩
  | succ f ih =>
    simp only [laK]
    by_cases h : sndC (trR ρ t k) 6 t (-1) < 30
    · rw [if_pos h]
      omega
    · rw [if_neg h]
      have := ih (k + 1)
      omega
theorem bec_snd {sp : Int32} : sndC (becR ρ 12) 6 t sp = sndC ρ 1 t sp := by
  unfold sndC
  rw [bec_out (by omega), bec_out (by omega)]
  rw [show sumI (fun i => if nI i = sp then 0 else ρ (16 + 3 * t) i * hP (becR ρ 12) 6 i) 12 = sumI (fun i => if nI i = sp then 0 else ρ (16 + 3 * t) i * hP ρ 1 i) 12 from sumI_congr (fun i hi => by
    rw [show hP (becR ρ 12) 6 i = hP ρ 1 i by
      unfold hP becR
      rw [if_pos ⟨by omega, hi⟩, if_pos ⟨by omega, hi⟩, if_pos ⟨by omega, hi⟩]])]
theorem la_pos : laK ρ t 99 0 ≤ 99 ∧ (laK ρ t 99 0 = 0 ↔ sndC ρ 1 t (-1) < 30) := by
  refine ⟨by have := (la_bd (ρ := ρ) (t := t) 99 0).2; omega, ?_⟩
  show laK ρ t (98 + 1) 0 = 0 ↔ _
  have e : sndC (trR ρ t 0) 6 t (-1) = sndC ρ 1 t (-1) := bec_snd
  simp only [laK]
  rw [e]
  by_cases h : sndC ρ 1 t (-1) < 30
  · rw [if_pos h]
    exact ⟨fun _ => h, fun _ => rfl⟩
  · rw [if_neg h]
    have := (la_bd (ρ := ρ) (t := t) 98 (0 + 1)).1
    exact ⟨fun q => by have q : laK ρ t 98 (0 + 1) = 0 := q; omega, fun q => absurd q h⟩
/-! the best tune -/
theorem bs_key (n : Nat) : ((bsP ρ z n).2 = -1 ∧ (bsP ρ z n).1 = 0 ∧ ∀ k, k < n → pyN ρ z k ≤ 0) ∨ ∃ q, q < n ∧ (bsP ρ z n).2 = nI q ∧ (bsP ρ z n).1 = pyN ρ z q ∧ ∀ k, k < n → pyN ρ z k ≤ pyN ρ z q := by
  induction n with
  | zero => exact Or.inl ⟨rfl, rfl, fun k hk => absurd hk (Nat.not_lt_zero k)⟩
  | succ n ih =>
    simp only [bsP]
    by_cases h : pyN ρ z n ≤ (bsP ρ z n).1
    · rw [if_pos h]
      rcases ih with ⟨h1, h2, h3⟩ | ⟨q, hq, h1, h2, h3⟩
      · refine Or.inl ⟨h1, h2, fun k hk => ?_⟩
        rcases Nat.lt_or_ge k n with h4 | h4
        · exact h3 k h4
        · obtain rfl : k = n := by omega
          rw [h2] at h
          exact h
      · refine Or.inr ⟨q, by omega, h1, h2, fun k hk => ?_⟩
        rcases Nat.lt_or_ge k n with h4 | h4
        · exact h3 k h4
        · obtain rfl : k = n := by omega
          rw [h2] at h
          exact h
    · rw [if_neg h]
      have h9 := Int32.not_le.mp h
      refine Or.inr ⟨n, by omega, rfl, rfl, fun k hk => ?_⟩
      rcases Nat.lt_or_ge k n with h4 | h4
      · rcases ih with ⟨_, h2, h3⟩ | ⟨q, hq, _, h2, h3⟩
        · rw [h2] at h9
          exact Int32.le_trans (h3 k h4) (Int32.le_of_lt h9)
        · rw [h2] at h9
          exact Int32.le_trans (h3 k h4) (Int32.le_of_lt h9)
      · obtain rfl : k = n := by omega
        exact Int32.le_refl _
theorem bes_fact (ht : t < T) : ((bsP ρ z T).2 < 0 ∧ ¬ 0 < pyN ρ z t) ∨ ∃ q, q < T ∧ (bsP ρ z T).2 = nI q ∧ ¬ pyN ρ z q < pyN ρ z t := by
  rcases bs_key (ρ := ρ) (z := z) T with ⟨h1, _, h3⟩ | ⟨q, hq, h1, _, h3⟩
  · exact Or.inl ⟨by rw [h1]; decide, Int32.not_lt.mpr (h3 t ht)⟩
  · exact Or.inr ⟨q, hq, h1, Int32.not_lt.mpr (h3 t ht)⟩
theorem pay_le (hI : Inv ρ N T S d) (hz : z < 8) (ht : t < 6) : ¬ ρ (32 + 2 * z) 1 * sndC ρ 1 t (-1) / 60 < pyN ρ z t := by
  obtain ⟨P, h, h1, h2, h3, h4⟩ := Inv_pay hI hz ht
  unfold pyN payV
  rw [h1, h3, nI_clamp (by omega), nI_clamp h4]
  have h5 : P / 2 ^ h ≤ P := Nat.div_le_self _ _
  rw [nI_ltI (by omega) (by omega)]
  omega
end LP
