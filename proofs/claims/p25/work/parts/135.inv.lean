/-! What the invariant gives, and that every call keeps it -/
def snR (ρ : gSt) (b q : Nat) : gSt := up2 (up2 ρ (b + 1) q (mnI 30 (ρ (b + 1) q + 1))) (b + 4) q 1
/-- a tune's first k notes sung -/
def sgR (ρ : gSt) (b t : Nat) : Nat → gSt
  | 0 => ρ
  | k + 1 => snR (sgR ρ b t k) b (ix (ρ (15 + 3 * t) k))
theorem mn_N {x y : Nat} (hx : x < 2 ^ 31) (hy : y < 2 ^ 31) : mnI (nI x) (nI y) = nI (min x y) := by
  unfold mnI
  by_cases h : y < x
  · rw [if_pos ((nI_ltI hy hx).mpr h), Nat.min_eq_right (by omega)]
  · rw [if_neg (fun q => h ((nI_ltI hy hx).mp q)), Nat.min_eq_left (by omega)]
theorem cntI_s {f : Nat → Int32} {x : Int32} {k : Nat} : cntI f x (k + 1) = cntI f x k + (if f k = x then 1 else 0) := rfl
theorem cnt_N {f : Nat → Int32} {x : Int32} {L : Nat} : ∃ q : Nat, q ≤ L ∧ cntI f x L = nI q := by
  induction L with
  | zero => exact ⟨0, Nat.le_refl 0, rfl⟩
  | succ L ih =>
    obtain ⟨q, hq, e⟩ := ih
    rw [cntI_s, e]
    by_cases h : f L = x
    · exact ⟨q + 1, by omega, by rw [if_pos h, nI_1]⟩
    · exact ⟨q, by omega, by rw [if_neg h, Int32.add_zero]⟩
theorem sumI_add {f g : Nat → Int32} {k : Nat} : sumI (fun j => f j + g j) k = sumI f k + sumI g k := by
  induction k with
  | zero => rfl
  | succ k ih =>
    rw [sumI_s, sumI_s, sumI_s, ih, Int32.add_assoc, Int32.add_assoc]
    congr 1
    rw [← Int32.add_assoc, Int32.add_comm (sumI g k) (f k), Int32.add_assoc]
theorem sumI_z {k : Nat} : sumI (fun _ => 0) k = 0 := by
  induction k with
  | zero => rfl
  | succ k ih => rw [sumI_s, ih]; rfl
theorem sumI_N {f : Nat → Int32} {M k : Nat} (h : ∀ j, j < k → ∃ u : Nat, u ≤ M ∧ f j = nI u) : ∃ s : Nat, s ≤ M * k ∧ sumI f k = nI s := by
  induction k with
  | zero => exact ⟨0, Nat.zero_le _, rfl⟩
  | succ k ih =>
    obtain ⟨s, hs, e⟩ := ih (fun j hj => h j (by omega))
    obtain ⟨u, hu, e2⟩ := h k (by omega)
    exact ⟨s + u, by rw [Nat.mul_succ]; omega, by rw [sumI_s, e, e2, nI_add]⟩
theorem sumI_dl {g : Nat → Int32} {q : Nat} (hq : q < 2 ^ 31) : ∀ n : Nat, n < 2 ^ 31 → sumI (fun i => if nI q = nI i then g i else 0) n = if q < n then g q else 0 := by
  intro n
  induction n with
  | zero => intro _; rw [if_neg (Nat.not_lt_zero q)]; rfl
  | succ n ih =>
    intro hn
    rw [sumI_s, ih (by omega)]
    rcases Nat.lt_trichotomy q n with h | h | h
    · rw [if_pos h, if_neg (nI_ne (by omega) hq (by omega)), if_pos (by omega), Int32.add_zero]
    · subst h
      rw [if_neg (Nat.lt_irrefl q), if_pos rfl, if_pos (by omega), Int32.zero_add]
    · rw [if_neg (by omega), if_neg (nI_ne (by omega) hq (by omega)), if_neg (by omega), Int32.zero_add]
theorem sum_sw {f g : Nat → Int32} {sp : Int32} {L : Nat} (hn : ∀ k, k < L → ∃ q : Nat, q < 12 ∧ f k = nI q) : sumI (fun i => if nI i = sp then 0 else cntI f (nI i) L * g i) 12 = sumI (fun k => if f k = sp then 0 else g (ix (f k))) L := by
  induction L with
  | zero =>
    have : sumI (fun i => if nI i = sp then 0 else cntI f (nI i) 0 * g i) 12 = sumI (fun _ => 0) 12 := sumI_congr (fun j _ => by
      show (if nI j = sp then 0 else (0 : Int32) * g j) = 0
      rw [Int32.zero_mul, ite_self])
    rw [this, sumI_z]
    rfl
  | succ L ih =>
    obtain ⟨q, hq, e⟩ := hn L (by omega)
    have h1 : sumI (fun i => if nI i = sp then 0 else cntI f (nI i) (L + 1) * g i) 12 = sumI (fun i => (if nI i = sp then 0 else cntI f (nI i) L * g i) + (if nI q = nI i then (if nI i = sp then 0 else g i) else 0)) 12 := sumI_congr (fun j _ => by
      show (if nI j = sp then 0 else cntI f (nI j) (L + 1) * g j) = (if nI j = sp then 0 else cntI f (nI j) L * g j) + (if nI q = nI j then (if nI j = sp then 0 else g j) else 0)
      rw [cntI_s, e]
      by_cases h9 : nI j = sp
      · simp only [if_pos h9, ite_self]
        rfl
      · simp only [if_neg h9]
        by_cases h8 : nI q = nI j
        · rw [if_pos h8, if_pos h8, Int32.add_mul, Int32.one_mul]
        · rw [if_neg h8, if_neg h8, Int32.add_zero, Int32.add_zero])
    rw [h1, sumI_add, ih (fun k hk => hn k (by omega)), sumI_dl (g := fun i => if nI i = sp then 0 else g i) (by omega) 12 (by omega), if_pos hq, sumI_s, e, show ix (nI q) = q from nI_clamp (by omega)]
theorem snd_eq {ρ : gSt} {b t L : Nat} {sp : Int32} (hL : ρ (14 + 3 * t) 2 = nI L) (hL16 : L ≤ 16) (hLn : ∀ k, k < L → ∃ q : Nat, q < 12 ∧ ρ (15 + 3 * t) k = nI q) (hLc : ∀ q, q < 12 → ρ (16 + 3 * t) q = cntI (ρ (15 + 3 * t)) (nI q) L) : sndC ρ b t sp = if ρ (14 + 3 * t) 2 = 0 then 0 else 60 - sumI (fun k => if ρ (15 + 3 * t) k = sp then 0 else hP ρ b (ix (ρ (15 + 3 * t) k))) L / ρ (14 + 3 * t) 2 := by
  unfold sndC
  rw [show sumI (fun i => if nI i = sp then 0 else ρ (16 + 3 * t) i * hP ρ b i) 12 = sumI (fun i => if nI i = sp then 0 else cntI (ρ (15 + 3 * t)) (nI i) L * hP ρ b i) 12 from sumI_congr (fun j hj => by rw [hLc j hj]), sum_sw (g := hP ρ b) hLn]
theorem ab_N {x : Int32} (ho : -60 ≤ x ∧ x ≤ 60) : ∃ q : Nat, q ≤ 60 ∧ ab x = nI q := by
  unfold ab
  have h1 := Int32.le_iff_toInt_le.mp ho.1
  have h2 := Int32.le_iff_toInt_le.mp ho.2
  have e1 : (-60 : Int32).toInt = -60 := by decide
  have e2 : (60 : Int32).toInt = 60 := by decide
  have e0 : (0 : Int32).toInt = 0 := by decide
  by_cases h : 0 ≤ x
  · rw [if_pos h]
    exact nI_of2 (M := 60) (n := 60) rfl (Int32.not_lt.mpr h) ho.2
  · rw [if_neg h]
    have h3 : ¬ (0 : Int) ≤ x.toInt := fun q => h (Int32.le_iff_toInt_le.mpr (by rw [e0]; exact q))
    have h4 : (0 - x).toInt = - x.toInt := by
      rw [Int32.toInt_sub, e0, Int.bmod_def]
      split <;> omega
    refine nI_of2 (M := 60) (n := 60) rfl (fun q => ?_) ?_
    · have := Int32.lt_iff_toInt_lt.mp q
      omega
    · rw [Int32.le_iff_toInt_le, h4, e2]
      omega
theorem hP_N {ρ : gSt} {b i : Nat} (h : pipI ρ b i) : ∃ q : Nat, q ≤ 60 ∧ hP ρ b i = nI q := by
  obtain ⟨⟨u, hu, eu⟩, ho, _⟩ := h
  obtain ⟨q, hq, eq⟩ := ab_N ho
  unfold hP hm
  by_cases h : ρ (b + 3) i = 0
  · rw [if_pos h, eq, eu, show (2 : Int32) * nI u = nI (2 * u) from pk_mul 2 u, nI_add]
    exact ⟨min 60 (q + 2 * u), Nat.min_le_left _ _, mn_N (x := 60) (by omega) (by omega)⟩
  · rw [if_neg h]
    exact ⟨60, by omega, rfl⟩
theorem snd_N {ρ : gSt} {b t : Nat} {sp : Int32} (hT : tunI ρ t) (hp : ∀ i, i < 12 → pipI ρ b i) : ∃ u : Nat, u ≤ 60 ∧ sndC ρ b t sp = nI u := by
  obtain ⟨L, hL, hL16, hLn, hLc⟩ := hT
  rw [snd_eq hL hL16 hLn hLc, hL]
  by_cases h0 : nI L = 0
  · exact ⟨0, by omega, by rw [if_pos h0]; rfl⟩
  · have hL0 : L ≠ 0 := fun q => h0 (by rw [q]; rfl)
    obtain ⟨s, hs, e⟩ := sumI_N (M := 60) (f := fun k => if ρ (15 + 3 * t) k = sp then 0 else hP ρ b (ix (ρ (15 + 3 * t) k))) (k := L) (fun j hj => by
      show ∃ u : Nat, u ≤ 60 ∧ (if ρ (15 + 3 * t) j = sp then 0 else hP ρ b (ix (ρ (15 + 3 * t) j))) = nI u
      by_cases h9 : ρ (15 + 3 * t) j = sp
      · exact ⟨0, by omega, by rw [if_pos h9]; rfl⟩
      · rw [if_neg h9]
        obtain ⟨q, hq, eq⟩ := hLn j hj
        rw [eq, show ix (nI q) = q from nI_clamp (by omega)]
        exact hP_N (hp q hq))
    have h5 : s / L ≤ 60 := Nat.div_le_of_le_mul (by rw [Nat.mul_comm]; exact hs)
    refine ⟨60 - s / L, Nat.sub_le _ _, ?_⟩
    rw [if_neg h0, e, pk_div (by omega) (by omega) (by omega), show (60 : Int32) = nI 60 from rfl, pk_sub h5]
theorem Inv_pay {ρ : gSt} {N T S d z t : Nat} (hI : Inv ρ N T S d) (hz : z < 8) (ht : t < 6) : payOK ρ z t (sndC ρ 1 t (-1)) := by
  obtain ⟨hT, hT6, hS, hS8, hd, hdN, hN, hTu, hSt, hPi, hZ, hHd⟩ := id hI
  obtain ⟨⟨u, hu, eu⟩, hh⟩ := hSt z hz
  obtain ⟨h, hhN, eh⟩ := hh t ht
  obtain ⟨v, hv, ev⟩ := snd_N (sp := -1) (hTu t ht) hPi
  have h1 : u * v ≤ 90 * 60 := Nat.mul_le_mul hu hv
  have h2 : u * v / 60 ≤ u * v := Nat.div_le_self _ _
  refine ⟨u * v / 60, h, ?_, by omega, eh, by omega⟩
  rw [eu, ev, pk_mul]
  exact pk_div (d := 60) (by omega) (by omega) (by omega)
theorem mean_dec : ∀ s : Fin 361, ∀ t : Fin 7, t.val = 0 ∨ (FP.ddiv (FP.i2d (nI s.val)) (FP.i2d (nI t.val))) &&& 0x7fffffffffffffff ≤ 0x7ff0000000000000 := by decide +kernel
theorem Inv_mean {ρ : gSt} {N T S d : Nat} (hI : Inv ρ N T S d) (h0 : ¬ nI T = 0) : vf_n64 (FP.ddiv (FP.i2d (sumI (fun t => sndC ρ 1 t (-1)) T)) (FP.i2d (nI T))) := by
  obtain ⟨hT, hT6, hS, hS8, hd, hdN, hN, hTu, hSt, hPi, hZ, hHd⟩ := id hI
  obtain ⟨s, hs, e⟩ := sumI_N (M := 60) (f := fun t => sndC ρ 1 t (-1)) (k := T) (fun j hj => snd_N (hTu j (by omega)) hPi)
  rw [e]
  exact (mean_dec ⟨s, by omega⟩ ⟨T, by omega⟩).resolve_left (fun q => h0 (by rw [show T = 0 from q]; rfl))
theorem shr_dec : ∀ k : Fin 21, ((nI k.val).toBitVec.smod 32).toNat = k.val := by decide +kernel
theorem pay_shift {ρ : gSt} {z t P h : Nat} (hP1 : ρ (32 + 2 * z) 1 * sndC ρ 1 t (-1) / 60 = nI P) (hP20 : P < 2 ^ 20) (hh : ρ (33 + 2 * z) t = nI h) (hh31 : h < 2 ^ 31) : nI P >>> (mnI 20 (nI h) &&& 31) = pyN ρ z t := by
  unfold pyN payV
  rw [hP1, hh, nI_clamp (by omega), nI_clamp hh31, show mnI 20 (nI h) = nI (min 20 h) from mn_N (x := 20) (by omega) hh31, pk_andN (by omega) 5 rfl, show min 20 h % 2 ^ 5 = min 20 h by omega, pk_shrN (by omega) (nI (min 20 h)) (min 20 h) (shr_dec ⟨min 20 h, by omega⟩)]
  by_cases q : h ≤ 20
  · rw [Nat.min_eq_right q]
  · rw [Nat.min_eq_left (by omega), Nat.div_eq_of_lt hP20, Nat.div_eq_of_lt (Nat.lt_of_lt_of_le hP20 (Nat.pow_le_pow_right (by omega) (by omega)))]
theorem hrd_T {ρ : gSt} {z T : Nat} (hT6 : T ≤ 6) (hH : ∀ t, T ≤ t → t < 6 → ρ (33 + 2 * z) t = 0) : sumI (fun j => ρ (33 + 2 * z) j) T = hrd ρ z := by
  unfold hrd
  have key : ∀ n, T ≤ n → n ≤ 6 → sumI (fun j => ρ (33 + 2 * z) j) n = sumI (fun j => ρ (33 + 2 * z) j) T := by
    intro n
    induction n with
    | zero => intro h _; rw [show T = 0 by omega]
    | succ n ih =>
      intro h h6
      rcases Nat.lt_or_ge n T with q | q
      · rw [show n + 1 = T by omega]
      · rw [sumI_s, ih q (by omega), hH n q (by omega), Int32.add_zero]
  exact (key 6 hT6 (Nat.le_refl 6)).symm
theorem heard_T {ρ : gSt} {N T S d z : Nat} (hI : Inv ρ N T S d) (hz : z < 8) : ∀ t, T ≤ t → t < 6 → ρ (33 + 2 * z) t = 0 := by
  obtain ⟨hT, hT6, hS, hS8, hd, hdN, hN, hTu, hSt, hPi, hZ, hHd⟩ := hI
  exact hHd z hz
theorem pm1 {x y : Int32} (h : ¬ pmF x y = 0) : pmF x y = 1 := by
  unfold pmF at *
  split
  · rfl
  · rename_i q
    rw [if_neg q] at h
    exact absurd rfl h
theorem hd_b {y : Int32} : -60 ≤ hd y ∧ hd y ≤ 60 := by
  have e1 : (-60 : Int32).toInt = -60 := by decide
  have e2 : (60 : Int32).toInt = 60 := by decide
  unfold hd mxI mnI
  by_cases h1 : y < 60
  · rw [if_pos h1]
    by_cases h2 : -60 < y
    · rw [if_pos h2]
      exact ⟨Int32.le_of_lt h2, Int32.le_of_lt h1⟩
    · rw [if_neg h2]
      exact ⟨by decide, by decide⟩
  · rw [if_neg h1]
    exact ⟨by decide, by decide⟩
theorem pip_cg {ρ σ : gSt} {b i : Nat} (h : pipI ρ b i) (h1 : σ (b + 1) i = ρ (b + 1) i) (h2 : σ (b + 2) i = ρ (b + 2) i) (h3 : σ (b + 3) i = ρ (b + 3) i) (h4 : σ (b + 4) i = ρ (b + 4) i) : pipI σ b i := by
  unfold pipI
  rw [h1, h2, h3, h4]
  exact h
theorem nt_pip {ρ : gSt} {b i n : Nat} {v : Int32} (h : pipI ρ b i) : pipI (ntR ρ b v n) b i := by
  obtain ⟨hw, ho, hc, hs⟩ := h
  unfold pipI ntR
  by_cases q : i < n
  · simp only [if_pos q]
    refine ⟨?_, ?_, ?_, ?_⟩
    · rw [if_neg (by omega), if_neg (by omega), if_neg (by omega)]
      exact hw
    · rw [if_pos trivial]
      exact hd_b
    · rw [if_neg (by omega), if_pos trivial]
      split
      · exact Or.inr rfl
      · exact hc
    · rw [if_neg (by omega), if_neg (by omega), if_pos trivial]
      exact Or.inl rfl
  · simp only [if_neg q]
    exact ⟨hw, ho, hc, hs⟩
theorem ns_pip {ρ : gSt} {b i n d : Nat} (h : pipI ρ b i) : pipI (nsR ρ b d n) b i := by
  induction n with
  | zero => exact h
  | succ n ih => exact nt_pip ih
theorem bec_pip {ρ : gSt} {i : Nat} (h : pipI ρ 1 i) (hi : i < 12) : pipI (becR ρ 12) 6 i := by
  unfold pipI becR
  rw [if_pos (by omega), if_pos (by omega), if_pos (by omega), if_pos (by omega)]
  exact h
theorem wd_pip {ρ : gSt} {b t i : Nat} (hT : tunI ρ t) (hi : i < 12) (h : pipI ρ b i) : pipI (wdR ρ b t 12) b i := by
  obtain ⟨⟨u, hu, eu⟩, ho, hc, hs⟩ := h
  obtain ⟨L, hL, hL16, hLn, hLc⟩ := hT
  obtain ⟨q, hq, eq⟩ := cnt_N (f := ρ (15 + 3 * t)) (x := nI i) (L := L)
  unfold pipI wdR
  by_cases h0 : i < 12 ∧ 0 < ρ (16 + 3 * t) i
  · simp only [if_pos h0]
    refine ⟨?_, ?_, ?_, ?_⟩
    · rw [if_pos trivial, hLc i hi, eq, eu, nI_add]
      exact ⟨min 30 (u + q), Nat.min_le_left _ _, mn_N (x := 30) (by omega) (by omega)⟩
    · rw [if_neg (by omega), if_neg (by omega)]
      exact ho
    · rw [if_neg (by omega), if_neg (by omega)]
      exact hc
    · rw [if_neg (by omega), if_pos trivial]
      exact Or.inr rfl
  · simp only [if_neg h0]
    exact ⟨⟨u, hu, eu⟩, ho, hc, hs⟩
theorem tun_cg {ρ σ : gSt} {t : Nat} (h : tunI ρ t) (e : ∀ k, 14 + 3 * t ≤ k → k ≤ 16 + 3 * t → σ k = ρ k) : tunI σ t := by
  unfold tunI
  rw [e _ (by omega) (by omega), e _ (by omega) (by omega), e _ (by omega) (by omega)]
  exact h
theorem wd_out {ρ : gSt} {b t n k : Nat} (h1 : k ≠ b + 1) (h2 : k ≠ b + 4) : wdR ρ b t n k = ρ k := by
  funext j
  unfold wdR
  rw [if_neg h1, if_neg h2, ite_self]
theorem bec_out {ρ : gSt} {n k : Nat} (h : k ≤ 6 ∨ 10 < k) : becR ρ n k = ρ k := by
  funext j
  unfold becR
  rw [if_neg (by omega)]
theorem tr_out {ρ : gSt} {t n k : Nat} (h : k ≤ 6 ∨ 10 < k) : trR ρ t n k = ρ k := by
  induction n with
  | zero => exact bec_out h
  | succ n ih => exact (wd_out (by omega) (by omega)).trans ih
theorem tr_tun {ρ : gSt} {t n : Nat} (hT : tunI ρ t) (ht : t < 6) : tunI (trR ρ t n) t := tun_cg hT (fun k h1 h2 => tr_out (by omega))
theorem tr_pip {ρ : gSt} {t i n : Nat} (hT : tunI ρ t) (ht : t < 6) (h : pipI ρ 1 i) (hi : i < 12) : pipI (trR ρ t n) 6 i := by
  induction n with
  | zero => exact bec_pip h hi
  | succ n ih => exact wd_pip (tr_tun hT ht) hi ih
theorem sg_wd {ρ : gSt} {b t L : Nat} (hL16 : L ≤ 16) (hLn : ∀ k, k < L → ∃ q : Nat, q < 12 ∧ ρ (15 + 3 * t) k = nI q) (hLc : ∀ q, q < 12 → ρ (16 + 3 * t) q = cntI (ρ (15 + 3 * t)) (nI q) L) (hw : ∀ i, i < 12 → ∃ w : Nat, w ≤ 30 ∧ ρ (b + 1) i = nI w) : sgR ρ b t L = wdR ρ b t 12 := by
  have key : ∀ n, n ≤ L → sgR ρ b t n = fun k j => if j < 12 ∧ 0 < cntI (ρ (15 + 3 * t)) (nI j) n then (if k = b + 1 then mnI 30 (ρ k j + cntI (ρ (15 + 3 * t)) (nI j) n) else if k = b + 4 then 1 else ρ k j) else ρ k j := by
    intro n
    induction n with
    | zero =>
      intro _
      funext k j
      rw [if_neg (fun q => absurd (show (0 : Int32) < 0 from q.2) (by decide))]
      rfl
    | succ n ih =>
      intro hn
      obtain ⟨q, hq, e⟩ := hLn n (by omega)
      funext k j
      simp only [sgR, snR]
      rw [ih (by omega), e, show ix (nI q) = q from nI_clamp (by omega)]
      simp only [cntI_s, e, up2_e]
      by_cases hj : j = q
      · subst hj
        obtain ⟨u, hu, eu⟩ := hw j hq
        obtain ⟨v, hv, ev⟩ := cnt_N (f := ρ (15 + 3 * t)) (x := nI j) (L := n)
        have hpos : j < 12 ∧ 0 < cntI (ρ (15 + 3 * t)) (nI j) n + (if nI j = nI j then 1 else 0) := ⟨hq, by rw [if_pos rfl, ev, nI_1]; exact (nI_ltI (a := 0) (by omega) (by omega)).mpr (by omega)⟩
        rw [if_pos hpos, if_pos rfl, ev]
        by_cases h4 : k = b + 4
        · rw [if_pos ⟨h4, rfl⟩, if_neg (by omega), if_pos h4]
        · rw [if_neg (fun h => h4 h.1), if_neg h4]
          by_cases h1 : k = b + 1
          · subst h1
            rw [if_pos ⟨rfl, rfl⟩, if_pos trivial, eu, if_pos rfl]
            have e3 : mnI 30 ((if j < 12 ∧ 0 < nI v then mnI 30 (nI u + nI v) else nI u) + 1) = mnI 30 (nI u + (nI v + 1)) := by
              by_cases hv0 : v = 0
              · subst hv0
                rw [if_neg (fun h => absurd h.2 (by decide))]
                rfl
              · rw [if_pos ⟨hq, (nI_ltI (a := 0) (by omega) (by omega)).mpr (by omega)⟩, nI_add, show mnI 30 (nI (u + v)) = nI (min 30 (u + v)) from mn_N (x := 30) (by omega) (by omega), nI_1, nI_1, nI_add, show mnI 30 (nI (min 30 (u + v) + 1)) = nI (min 30 (min 30 (u + v) + 1)) from mn_N (x := 30) (by omega) (by omega), show mnI 30 (nI (u + (v + 1))) = nI (min 30 (u + (v + 1))) from mn_N (x := 30) (by omega) (by omega)]
                congr 1
                omega
            exact e3
          · rw [if_neg (fun h => h1 h.1), if_neg h1, if_neg h1, ite_self]
      · rw [if_neg (fun h => hj h.2), if_neg (fun h => hj h.2)]
        by_cases hj12 : j < 12
        · rw [if_neg (fun h : nI q = nI j => hj ((nI_eq (by omega) (by omega)).mp h).symm), Int32.add_zero]
        · rw [if_neg (fun h => hj12 h.1), if_neg (fun h => hj12 h.1)]
  rw [key L (Nat.le_refl L)]
  funext k j
  unfold wdR
  by_cases hj : j < 12
  · rw [hLc j hj]
  · rw [if_neg (fun h => hj h.1), if_neg (fun h => hj h.1)]
