/-! A night, foreseen and passed -/
def silF (ρ : gSt) (j : Nat) : Int32 := if tellF ρ 1 j 4 = 0 then 1 else 0
def frA (ρ : gSt) (i : Nat) : gSt := fun k j => if j < i then (if k = 0 then tellF ρ 1 j 0 else if k = 1 then tellF ρ 1 j 1 else if k = 2 then silF ρ j else 0) else 0
section LPB
variable {ρ σ : gSt} {N T S d t z i j u : Nat} {v : Int32}
theorem sil_01 : silF ρ j = 0 ∨ silF ρ j = 1 := by
  unfold silF
  by_cases h : tellF ρ 1 j 4 = 0
  · rw [if_pos h]
    exact Or.inr rfl
  · rw [if_neg h]
    exact Or.inl rfl
theorem frA_0 : xRo (xRo (xRo z0 0) 1) 2 = frA ρ 0 := by
  funext k j
  simp only [xRo, frA]
  rw [if_neg (Nat.not_lt_zero j)]
  by_cases h2 : k = 2
  · rw [if_pos h2]
  · rw [if_neg h2]
    by_cases h1 : k = 1
    · rw [if_pos h1]
    · rw [if_neg h1]
      by_cases h0 : k = 0
      · rw [if_pos h0]
      · rw [if_neg h0]
        rfl
theorem frA_s : up2 (up2 (up2 (frA ρ j) 0 j (tellF ρ 1 j 0)) 1 j (tellF ρ 1 j 1)) 2 j (silF ρ j) = frA ρ (j + 1) := by
  funext k y
  simp only [up2_e, frA]
  grind
theorem lcmp_rf (x : Int64) : lg_cmp x x = 0 := by
  unfold lg_cmp
  simp
theorem up2_bk {w : Int32} {k : Nat} (h : ρ k j = v) : up2 (up2 ρ k j w) k j v = ρ := by
  funext a b
  rw [up2_e]
  by_cases h0 : a = k ∧ b = j
  · rw [if_pos h0, h0.1, h0.2, h]
  · rw [if_neg h0, up2_e, if_neg h0]
theorem apart_for : Apart ρ (forR ρ 1) := fun k hk => by
  unfold forR
  rw [nsR_out (by omega), bec_out hk]
theorem res_in (h7 : ρ 0 7 = nI d) (hd : d < 2 ^ 31) {k : Nat} (hk : k ≠ 0) (hk9 : k < 6) : resR ρ 1 k j = ntR ρ 1 (ρ 13 (d % 7)) 12 k j := by
  unfold resR
  rw [up2_k hk]
  unfold fgA
  rw [if_neg (by omega), h7, show ix (nI d) = d from ix_N hd]
  rfl
theorem res_2 (h7 : ρ 0 7 = nI d) (hd : d < 2 ^ 31) (hj : j < 12) : resR ρ 1 2 j = ρ 2 j := by
  rw [res_in h7 hd (by omega) (by omega)]
  unfold ntR
  rw [if_pos hj, if_neg (by omega), if_neg (by omega), if_neg (by omega)]
theorem res_3 (h7 : ρ 0 7 = nI d) (hd : d < 2 ^ 31) (hj : j < 12) : resR ρ 1 3 j = hdd (ρ 3 j + par (ρ 13 (d % 7)) j) := by
  rw [res_in h7 hd (by omega) (by omega)]
  unfold ntR
  rw [if_pos hj, if_pos (by omega)]
theorem res_4 (h7 : ρ 0 7 = nI d) (hd : d < 2 ^ 31) (hj : j < 12) : resR ρ 1 4 j = if cmB ρ 1 j = 1 then 1 else ρ 4 j := by
  rw [res_in h7 hd (by omega) (by omega)]
  unfold ntR
  rw [if_pos hj, if_neg (by omega), if_pos (by omega)]
theorem res_5 (h7 : ρ 0 7 = nI d) (hd : d < 2 ^ 31) (hj : j < 12) : resR ρ 1 5 j = 0 := by
  rw [res_in h7 hd (by omega) (by omega)]
  unfold ntR
  rw [if_pos hj, if_neg (by omega), if_neg (by omega), if_pos (by omega)]
theorem for_9 (hj : j < 12) : forR ρ 1 9 j = if cmB ρ 1 j = 1 then 1 else ρ 4 j := by
  show ntR (becR ρ 12) 6 _ 12 9 j = _
  unfold ntR
  rw [if_pos hj, if_neg (by omega), if_pos (by omega)]
  have e : ∀ k, k = 7 ∨ k = 8 ∨ k = 9 ∨ k = 10 → becR ρ 12 k j = ρ (k - 5) j := fun k hk => if_pos ⟨hk, hj⟩
  rw [show cmB (becR ρ 12) 6 j = cmB ρ 1 j by
    unfold cmB
    rw [e (6 + 1) (by omega), e (6 + 3) (by omega), e (6 + 4) (by omega)], e 9 (by omega)]
theorem Apart.cm (h : Apart ρ σ) : cmB σ 1 j = cmB ρ 1 j := by
  unfold cmB
  rw [h (1 + 1) (by omega), h (1 + 3) (by omega), h (1 + 4) (by omega)]
theorem for_crc (hA : Apart ρ σ) (h7 : σ 0 7 = nI d) (hd : d < 2 ^ 31) : sumUpF (forR ρ 1) 6 5 = crc (resR σ 1) 1 := by
  show sumI (fun j => b01 (forR ρ 1 9 j)) 12 = sumI (fun j => b01 (resR σ 1 4 j)) 12
  exact sumI_congr (fun j hj => by
    show b01 (forR ρ 1 9 j) = b01 (resR σ 1 4 j)
    rw [for_9 hj, res_4 h7 hd hj, hA.cm, hA 4 (by omega)])
theorem b01_cm : b01 (if cmB ρ 1 j = 1 then 1 else ρ 4 j) = b01 (ρ 4 j) + cmB ρ 1 j := by
  rw [cmB_9]
  by_cases h1 : ρ 2 j ≤ 9
  · simp only [if_pos h1]
    rw [if_neg (by decide), Int32.add_zero]
  · simp only [if_neg h1]
    by_cases h2 : ρ 5 j = 0
    · simp only [if_pos h2]
      by_cases h3 : ρ 4 j = 0
      · simp only [if_pos h3]
        rw [if_pos trivial, h3]
        rfl
      · simp only [if_neg h3]
        rw [if_neg (by decide), Int32.add_zero]
    · simp only [if_neg h2]
      rw [if_neg (by decide), Int32.add_zero]
theorem crc_res (h7 : ρ 0 7 = nI d) (hd : d < 2 ^ 31) : crc (resR ρ 1) 1 = crc ρ 1 + csF ρ 1 d 1 := by
  have e : csF ρ 1 d 1 = sumI (cmB ρ 1) 12 := Int32.zero_add _
  rw [e]
  have e2 : crc (resR ρ 1) 1 = sumI (fun j => b01 (ρ 4 j) + cmB ρ 1 j) 12 := sumI_congr (fun j hj => by
    show b01 (resR ρ 1 4 j) = b01 (ρ 4 j) + cmB ρ 1 j
    rw [res_4 h7 hd hj, b01_cm])
  rw [e2, sumI_add]
  rfl
theorem nby_dec : ∀ o : Fin 121, ∀ u : Fin 6, ((ab (hdd (nI o.val - 60 + nI u.val)) = 60 ∨ hdd (nI o.val - 60 + nI u.val) - (nI o.val - 60) = nI u.val) ∧ ¬ nI u.val < ab (hdd (nI o.val - 60 + nI u.val) - (nI o.val - 60))) ∧ ((ab (hdd (nI o.val - 60 + -nI u.val)) = 60 ∨ hdd (nI o.val - 60 + -nI u.val) - (nI o.val - 60) = -nI u.val) ∧ ¬ nI u.val < ab (hdd (nI o.val - 60 + -nI u.val) - (nI o.val - 60))) := by decide +kernel
theorem off_N {o : Int32} (h1 : -60 ≤ o) (h2 : o ≤ 60) : ∃ k : Nat, k < 121 ∧ o = nI k - 60 := by
  have h3 := Int32.le_iff_toInt_le.mp h1
  have h4 := Int32.le_iff_toInt_le.mp h2
  have e1 : (-60 : Int32).toInt = -60 := by decide
  have e2 : (60 : Int32).toInt = 60 := by decide
  rw [e1] at h3
  rw [e2] at h4
  refine ⟨(o.toInt + 60).toNat, by omega, Int32.toInt_inj.mp ?_⟩
  rw [show (60 : Int32) = nI 60 from rfl, pk_sub_toInt (by omega) (by omega)]
  omega
theorem night_by (hA : Apart ρ σ) (h7 : σ 0 7 = nI d) (hd : d < 2 ^ 31) (hj : j < 12) (hP : pipI ρ 1 j) (hu : u ≤ 5) (eu : ρ 13 (d % 7) = nI u) : (ab (tellF (resR σ 1) 1 j 1) = 60 ∨ tellF (resR σ 1) 1 j 1 - tellF ρ 1 j 1 = if nI (j % 2) = 0 then nI u else -nI u) ∧ ¬ nI u < ab (tellF (resR σ 1) 1 j 1 - tellF ρ 1 j 1) := by
  obtain ⟨o, ho, eo⟩ := off_N hP.2.1.1 hP.2.1.2
  have eo : ρ 3 j = nI o - 60 := eo
  have e : tellF (resR σ 1) 1 j 1 = hdd (nI o - 60 + if nI (j % 2) = 0 then nI u else -nI u) := by
    show resR σ 1 3 j = _
    rw [res_3 h7 hd hj, hA 3 (by omega), hA 13 (by omega), eo, eu]
    rfl
  have e2 : tellF ρ 1 j 1 = nI o - 60 := eo
  rw [e, e2]
  by_cases h : nI (j % 2) = 0
  · simp only [if_pos h]
    exact (nby_dec ⟨o, ho⟩ ⟨u, by omega⟩).1
  · simp only [if_neg h]
    exact (nby_dec ⟨o, ho⟩ ⟨u, by omega⟩).2
theorem night_0 (hA : Apart ρ σ) (h7 : σ 0 7 = nI d) (hd : d < 2 ^ 31) (hj : j < 12) : tellF (resR σ 1) 1 j 0 = tellF ρ 1 j 0 := by
  show resR σ 1 2 j = ρ 2 j
  rw [res_2 h7 hd hj, hA 2 (by omega)]
theorem night_4 (h7 : σ 0 7 = nI d) (hd : d < 2 ^ 31) (hj : j < 12) : tellF (resR σ 1) 1 j 4 = 0 := by
  show b01 (resR σ 1 5 j) = 0
  rw [res_5 h7 hd hj]
  rfl
theorem night_c (hA : Apart ρ σ) (h7 : σ 0 7 = nI d) (hd : d < 2 ^ 31) (hj : j < 12) (h2 : tellF (resR σ 1) 1 j 2 = 0) (h9 : ¬ tellF ρ 1 j 0 ≤ 9) : silF ρ j = 0 := by
  have h2 : b01 (resR σ 1 4 j) = 0 := h2
  have h9 : ¬ ρ 2 j ≤ 9 := h9
  rw [res_4 h7 hd hj, hA.cm, hA 4 (by omega), b01_cm, cmB_9, if_neg h9] at h2
  unfold silF
  show (if b01 (ρ 5 j) = 0 then 1 else 0) = (0 : Int32)
  by_cases h5 : ρ 5 j = 0
  · rw [if_pos h5] at h2
    by_cases h4 : ρ 4 j = 0
    · rw [if_pos h4, h4] at h2
      exact absurd h2 (by decide)
    · rw [if_neg h4, b01_ne h4] at h2
      exact absurd h2 (by decide)
  · rw [b01_ne h5]
    rfl
end LPB
