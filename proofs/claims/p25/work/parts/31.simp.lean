/-! Plain facts for the Sim's methods -/
def LnOK (ρ : gSt) (T : Nat) (Ln : Nat → Nat) : Prop := ∀ t, t < T → ρ (14 + 3 * t) 2 = nI (Ln t) ∧ Ln t ≤ 16
section SP
variable {ρ σ : gSt} {N T S d t p q w z : Nat} {Ln : Nat → Nat} {x : Int32}
theorem tunL (hT : tunI ρ t) (hL : ρ (14 + 3 * t) 2 = nI (Ln t) ∧ Ln t ≤ 16) : (∀ k, k < Ln t → ∃ q : Nat, q < 12 ∧ ρ (15 + 3 * t) k = nI q) ∧ ∀ q, q < 12 → ρ (16 + 3 * t) q = cntI (ρ (15 + 3 * t)) (nI q) (Ln t) := by
  obtain ⟨L, hL1, hL16, hLn, hLc⟩ := hT
  obtain rfl : L = Ln t := (nI_eq (by omega) (by omega)).mp (hL1.symm.trans hL.1)
  exact ⟨hLn, hLc⟩
theorem two_mul32 (w : Int32) : 2 * w = w + w := by
  have : (2 : Int32) = 1 + 1 := by decide
  rw [this, Int32.add_mul, Int32.one_mul]
theorem hP_a (h : ¬ ρ 4 p = 0) : 60 = hP ρ 1 p := by
  unfold hP hm
  rw [if_neg h]
theorem hP_bc (h : ρ 4 p = 0) : hP ρ 1 p = mnI 60 (ab (ρ 3 p) + ρ 2 p + ρ 2 p) := by
  unfold hP hm
  rw [if_pos h, two_mul32, Int32.add_assoc]
theorem hP_b (h : ρ 4 p = 0) (hx : x = ab (ρ 3 p) + ρ 2 p + ρ 2 p) (h6 : x ≤ 60) : x = hP ρ 1 p := by
  rw [hP_bc h, ← hx]
  unfold mnI
  by_cases q : x < 60
  · rw [if_pos q]
  · rw [if_neg q]
    exact Int32.le_antisymm h6 (Int32.not_lt.mp q)
theorem hP_c (h : ρ 4 p = 0) (hx : x = ab (ρ 3 p) + ρ 2 p + ρ 2 p) (h6 : ¬ x ≤ 60) : 60 = hP ρ 1 p := by
  rw [hP_bc h, ← hx]
  unfold mnI
  rw [if_neg (fun q => h6 (Int32.le_of_lt q))]
theorem ab_ge {o : Int32} (h : 0 ≤ o) : ab o = o := by
  unfold ab
  rw [if_pos h]
theorem ab_lt {o : Int32} (h : ¬ 0 ≤ o) : ab o = -o := by
  unfold ab
  rw [if_neg h, Int32.zero_sub]
def sdS (ρ : gSt) (t k : Nat) : Int32 := hP ρ 1 (ix (ρ (15 + 3 * t) k))
theorem snd_sim (hT : tunI ρ t) (hL : ρ (14 + 3 * t) 2 = nI (Ln t) ∧ Ln t ≤ 16) : sndC ρ 1 t (-1) = if nI (Ln t) = 0 then 0 else 60 - sumI (sdS ρ t) (Ln t) / nI (Ln t) := by
  obtain ⟨hLn, hLc⟩ := tunL hT hL
  rw [snd_eq hL.1 hL.2 hLn hLc, hL.1]
  have e : sumI (fun k => if ρ (15 + 3 * t) k = -1 then 0 else hP ρ 1 (ix (ρ (15 + 3 * t) k))) (Ln t) = sumI (sdS ρ t) (Ln t) := sumI_congr (fun j hj => by
    obtain ⟨q, hq, e⟩ := hLn j hj
    show (if ρ (15 + 3 * t) j = -1 then 0 else hP ρ 1 (ix (ρ (15 + 3 * t) j))) = sdS ρ t j
    rw [if_neg (fun h => by
      rw [e] at h
      have h2 := congrArg Int32.toInt h
      rw [nI_toInt (by omega)] at h2
      have e1 : (-1 : Int32).toInt = -1 := by decide
      rw [e1] at h2
      omega)]
    rfl)
  rw [e]
theorem sg_out {k : Nat} (h1 : k ≠ 2) (h2 : k ≠ 5) : sgR ρ 1 t p k = ρ k := by
  induction p with
  | zero => rfl
  | succ p ih =>
    funext j
    simp only [sgR, snR]
    rw [up2_k (by omega), up2_k (by omega), ih]
theorem sg_w (hw : ∀ i, i < 12 → ∃ w : Nat, w ≤ 30 ∧ ρ 2 i = nI w) : ∀ i, i < 12 → ∃ w : Nat, w ≤ 30 ∧ sgR ρ 1 t p 2 i = nI w := by
  induction p with
  | zero => exact hw
  | succ p ih =>
    intro i hi
    simp only [sgR, snR]
    rw [up2_k (by omega), up2_e]
    by_cases h : (2 : Nat) = 1 + 1 ∧ i = ix (ρ (15 + 3 * t) p)
    · rw [if_pos h]
      obtain ⟨w, hw, e⟩ := ih i hi
      rw [← h.2, show sgR ρ 1 t p (1 + 1) i = nI w from e, nI_1]
      exact ⟨min 30 (w + 1), Nat.min_le_left _ _, mn_N (x := 30) (by omega) (by omega)⟩
    · rw [if_neg h]
      exact ih i hi
theorem up2_id2 {k j : Nat} {v : Int32} (h : ρ k j = v) : up2 ρ k j v = ρ := by
  funext a b
  rw [up2_e]
  by_cases q : a = k ∧ b = j
  · rw [if_pos q, q.1, q.2, h]
  · rw [if_neg q]
theorem sg_s1 (hw : ρ 2 q = nI w) (h : w < 30) : up2 (up2 ρ 2 q (nI (w + 1))) 5 q 1 = snR ρ 1 q := by
  unfold snR
  rw [show ρ (1 + 1) q = nI w from hw, nI_1, show mnI 30 (nI (w + 1)) = nI (min 30 (w + 1)) from mn_N (x := 30) (by omega) (by omega), Nat.min_eq_right (by omega)]
theorem sg_s2 (hw : ρ 2 q = nI w) (h : 30 ≤ w) (h2 : w ≤ 30) : up2 ρ 5 q 1 = snR ρ 1 q := by
  unfold snR
  rw [show ρ (1 + 1) q = nI w from hw, nI_1, show mnI 30 (nI (w + 1)) = nI (min 30 (w + 1)) from mn_N (x := 30) (by omega) (by omega), Nat.min_eq_left (by omega), show (30 : Nat) = w by omega, up2_id2 (k := 1 + 1) hw]
theorem pm_dec : ∀ u : Fin 128, ∀ k : Fin 7, (nI u.val &&& ((1 : Int32) <<< (nI k.val &&& 31)) = 0 ↔ pmF (nI u.val) (nI k.val) = 0) ∧ ((nI u.val >>> (nI k.val &&& 31)) &&& 1 = pmF (nI u.val) (nI k.val)) := by decide +kernel
theorem pm_sh {u k : Nat} (hu : u ≤ 127) (hk : k < 7) : nI u &&& ((1 : Int32) <<< (nI k &&& 31)) = 0 ↔ pmF (nI u) (nI k) = 0 := (pm_dec ⟨u, by omega⟩ ⟨k, hk⟩).1
theorem pm_sr {u k : Nat} (hu : u ≤ 127) (hk : k < 7) : (nI u >>> (nI k &&& 31)) &&& 1 = pmF (nI u) (nI k) := (pm_dec ⟨u, by omega⟩ ⟨k, hk⟩).2
theorem mn10_le {x : Int32} (h : x ≤ 10) : mnI 10 x = x := by
  unfold mnI
  by_cases q : x < 10
  · rw [if_pos q]
  · rw [if_neg q]
    exact Int32.le_antisymm (Int32.not_lt.mp q) h
theorem mn10_gt {x : Int32} (h : ¬ x ≤ 10) : mnI 10 x = 10 := by
  unfold mnI
  rw [if_neg (fun q => h (Int32.le_of_lt q))]
/-- what playing does, where it can be done -/
def plV (ρ : gSt) (z t : Nat) : Int32 := if pmF (ρ (32 + 2 * z) 2) (wdF ρ) = 0 then -mnI 10 (ρ 0 8) else pyN ρ z t
def plR (ρ : gSt) (z t : Nat) : gSt := if pmF (ρ (32 + 2 * z) 2) (wdF ρ) = 0 then finR ρ else plyR ρ z t
/-- the sum of a row, without signs -/
def abs12 (ρ : gSt) (k : Nat) : Int32 := sumI (fun j => ab (ρ k j)) 12
theorem b01_ne {x : Int32} (h : ¬ x = 0) : b01 x = 1 := by
  unfold b01
  rw [if_neg h]
theorem b01_eq {x : Int32} (h : x = 0) : b01 x = 0 := by
  unfold b01
  rw [if_pos h]
theorem hd_sim {x : Int32} : hd x = if ¬ x ≤ 60 then 60 else if x < -60 then -60 else x := by
  unfold hd mxI mnI
  by_cases h1 : x < 60
  · rw [if_pos h1, if_neg (show ¬ ¬ x ≤ 60 from fun q => q (Int32.le_of_lt h1))]
    by_cases h2 : x < -60
    · rw [if_pos h2, if_neg (show ¬ -60 < x from fun q => Int32.lt_irrefl (Int32.lt_trans h2 q))]
    · rw [if_neg h2]
      by_cases h3 : -60 < x
      · rw [if_pos h3]
      · rw [if_neg h3]
        exact (Int32.le_antisymm (Int32.not_lt.mp h3) (Int32.not_lt.mp h2)).symm
  · rw [if_neg h1, if_pos (show (-60 : Int32) < 60 by decide)]
    by_cases h2 : x ≤ 60
    · have : x = 60 := Int32.le_antisymm h2 (Int32.not_lt.mp h1)
      subst this
      decide
    · rw [if_pos h2]
def cm2 (ρ : gSt) (i : Nat) : Int32 := if ρ 2 i ≤ 9 then 0 else if ρ 5 i = 0 then 1 else 0
theorem le9 {x : Int32} : x < 10 ↔ x ≤ 9 := by
  rw [Int32.lt_iff_toInt_lt, Int32.le_iff_toInt_le]
  have e1 : (10 : Int32).toInt = 10 := by decide
  have e2 : (9 : Int32).toInt = 9 := by decide
  omega
theorem cmB_9 {i : Nat} : cmB ρ 1 i = if ρ 2 i ≤ 9 then 0 else if ρ 5 i = 0 then (if ρ 4 i = 0 then 1 else 0) else 0 := by
  unfold cmB
  by_cases h : ρ 2 i ≤ 9
  · rw [if_pos h, if_pos (show ρ (1 + 1) i < 10 from le9.mpr h)]
  · rw [if_neg h, if_neg (show ¬ ρ (1 + 1) i < 10 from fun q => h (le9.mp q))]
theorem cm_a {i : Nat} (h : ρ 2 i ≤ 9) : 0 = cmB ρ 1 i := by rw [cmB_9, if_pos h]
theorem cm_b {i : Nat} (h : ¬ ρ 2 i ≤ 9) (h2 : ¬ ρ 5 i = 0) : 0 = cmB ρ 1 i := by rw [cmB_9, if_neg h, if_neg h2]
theorem cm_c {i : Nat} (h : ¬ ρ 2 i ≤ 9) (h2 : ρ 5 i = 0) (h3 : ¬ ρ 4 i = 0) : 0 = cmB ρ 1 i := by rw [cmB_9, if_neg h, if_pos h2, if_neg h3]
theorem cm_d {i : Nat} (h : ¬ ρ 2 i ≤ 9) (h2 : ρ 5 i = 0) (h3 : ρ 4 i = 0) : 1 = cmB ρ 1 i := by rw [cmB_9, if_neg h, if_pos h2, if_pos h3]
theorem cm2_a {i : Nat} (h : ρ 2 i ≤ 9) : 0 = cm2 ρ i := by unfold cm2; rw [if_pos h]
theorem cm2_b {i : Nat} (h : ¬ ρ 2 i ≤ 9) (h2 : ¬ ρ 5 i = 0) : 0 = cm2 ρ i := by unfold cm2; rw [if_neg h, if_neg h2]
theorem cm2_c {i : Nat} (h : ¬ ρ 2 i ≤ 9) (h2 : ρ 5 i = 0) : 1 = cm2 ρ i := by unfold cm2; rw [if_neg h, if_pos h2]
theorem or_cm {i : Nat} (h : pipI ρ 1 i) : ρ 4 i ||| cm2 ρ i = if cmB ρ 1 i = 1 then 1 else ρ 4 i := by
  have h3 : ρ 4 i = 0 ∨ ρ 4 i = 1 := h.2.2.1
  rw [cmB_9]
  unfold cm2
  by_cases h1 : ρ 2 i ≤ 9
  · rw [if_pos h1, if_pos h1]
    rcases h3 with q | q <;> rw [q] <;> decide
  · rw [if_neg h1, if_neg h1]
    by_cases h2 : ρ 5 i = 0
    · rw [if_pos h2, if_pos h2]
      rcases h3 with q | q <;> rw [q] <;> decide
    · rw [if_neg h2, if_neg h2]
      rcases h3 with q | q <;> rw [q] <;> decide
theorem cm_01 {i : Nat} (h : pipI ρ 1 i) : (if cmB ρ 1 i = 1 then 1 else ρ 4 i) = 0 ∨ (if cmB ρ 1 i = 1 then 1 else ρ 4 i) = 1 := by
  split
  · exact Or.inr rfl
  · exact h.2.2.1
theorem hd_1 {x : Int32} (h : x ≤ 60) (h2 : -60 ≤ x) : x = hd x := by
  rw [hd_sim, if_neg (fun q => q h), if_neg (Int32.not_lt.mpr h2)]
theorem hd_2 {x : Int32} (h : x ≤ 60) (h2 : ¬ -60 ≤ x) : -60 = hd x := by
  rw [hd_sim, if_neg (fun q => q h), if_pos (Int32.not_le.mp h2)]
theorem hd_3 {x : Int32} (h : ¬ x ≤ 60) : 60 = hd x := by
  rw [hd_sim, if_pos h]
end SP
