/-! The model's rows, read off the class's cells: th what it threw, a the day of its second pipes -/
def rM (ρ : gSt) (th a : Int32) : gSt := fun k j =>
  if k = 0 then (if j = 0 then th else if j = 1 then ρ 0 5 else if j = 4 then ρ 0 6 else if j = 10 then ρ 0 8 else if j = 11 then ρ 0 9 else 0)
  else if k = 1 then (if j < 6 then ρ (14 + 3 * j) 2 else 0)
  else if k = 2 then (if j < 96 then ρ (15 + 3 * (j / 16)) (j % 16) else 0)
  else if k = 3 then (if j < 8 then ρ (32 + 2 * j) 1 else 0)
  else if k = 4 then (if j < 8 then ρ (32 + 2 * j) 2 else 0)
  else if k = 5 then (if j < 8 then ρ (32 + 2 * j) 3 else 0)
  else if k = 6 then (if j < 48 then ρ (33 + 2 * (j / 6)) (j % 6) else 0)
  else if k = 7 then (if j < 7 then ρ 13 j else 0)
  else if k = 8 then (if j = 0 then ρ 0 7 else 0)
  else if k = 13 then (if j = 0 then a else 0)
  else if k < 18 then (if j < 12 then ρ (k - 7) j else 0)
  else 0
section RM
variable {ρ : gSt} {th a v : Int32} {t z k i b q : Nat}
theorem rM_many (h : t < 6) : rM ρ th a 1 t = ρ (14 + 3 * t) 2 := by simp [rM, h]
theorem rM_notes (h : t < 6) (hk : k < 16) : rM ρ th a 2 (16 * t + k) = ρ (15 + 3 * t) k := by
  simp only [rM]
  rw [if_neg (by omega), if_neg (by omega), if_pos trivial, if_pos (by omega), show (16 * t + k) / 16 = t by omega, show (16 * t + k) % 16 = k by omega]
theorem rM_lis (h : z < 8) : rM ρ th a 3 z = ρ (32 + 2 * z) 1 := by simp [rM, h]
theorem rM_per (h : z < 8) : rM ρ th a 4 z = ρ (32 + 2 * z) 2 := by simp [rM, h]
theorem rM_pai (h : z < 8) : rM ρ th a 5 z = ρ (32 + 2 * z) 3 := by simp [rM, h]
theorem rM_ply (h : z < 8) (ht : t < 6) : rM ρ th a 6 (6 * z + t) = ρ (33 + 2 * z) t := by
  simp only [rM]
  rw [if_neg (by omega), if_neg (by omega), if_neg (by omega), if_neg (by omega), if_neg (by omega), if_neg (by omega), if_pos trivial, if_pos (by omega), show (6 * z + t) / 6 = z by omega, show (6 * z + t) % 6 = t by omega]
theorem rM_dam (h : i < 7) : rM ρ th a 7 i = ρ 13 i := by simp [rM, h]
theorem rM_pip (hb : isP b) {j : Nat} (hj : 1 ≤ j ∧ j ≤ 4) (h : i < 12) : rM ρ th a (b + 7 + j) i = ρ (b + j) i := by
  rcases hb with rfl | rfl
  · simp only [rM]
    rw [if_neg (by omega), if_neg (by omega), if_neg (by omega), if_neg (by omega), if_neg (by omega), if_neg (by omega), if_neg (by omega), if_neg (by omega), if_neg (by omega), if_neg (by omega), if_pos (by omega), if_pos h, show 1 + 7 + j - 7 = 1 + j by omega]
  · simp only [rM]
    rw [if_neg (by omega), if_neg (by omega), if_neg (by omega), if_neg (by omega), if_neg (by omega), if_neg (by omega), if_neg (by omega), if_neg (by omega), if_neg (by omega), if_neg (by omega), if_pos (by omega), if_pos h, show 6 + 7 + j - 7 = 6 + j by omega]
theorem rM_w (hb : isP b) (h : i < 12) : rM ρ th a (b + 7 + 1) i = ρ (b + 1) i := rM_pip hb (by omega) h
theorem rM_o (hb : isP b) (h : i < 12) : rM ρ th a (b + 7 + 2) i = ρ (b + 2) i := rM_pip hb (by omega) h
theorem rM_c (hb : isP b) (h : i < 12) : rM ρ th a (b + 7 + 3) i = ρ (b + 3) i := rM_pip hb (by omega) h
theorem rM_s (hb : isP b) (h : i < 12) : rM ρ th a (b + 7 + 4) i = ρ (b + 4) i := rM_pip hb (by omega) h
theorem rM_thr : rM ρ th a 0 0 = th := rfl
theorem rM_tun : rM ρ th a 0 1 = ρ 0 5 := rfl
theorem rM_str : rM ρ th a 0 4 = ρ 0 6 := rfl
theorem rM_coi : rM ρ th a 0 10 = ρ 0 8 := rfl
theorem rM_fin : rM ρ th a 0 11 = ρ 0 9 := rfl
theorem rM_day : rM ρ th a (1 + 7) 0 = ρ 0 7 := rfl
theorem rM_day2 : rM ρ th a (6 + 7) 0 = a := rfl
theorem isQ7 (hb : isP b) : isQ (b + 7) := by
  rcases hb with rfl | rfl
  · exact Or.inl rfl
  · exact Or.inr rfl
theorem wM_thr : up2 (rM ρ th a) 0 0 v = rM ρ v a := by
  funext k j
  simp only [up2_e, rM]
  grind (splits := 30)
theorem wM_day : up2 (rM ρ th a) (1 + 7) 0 v = rM (up2 ρ 0 7 v) th a := by
  funext k j
  simp only [up2_e, rM]
  grind (splits := 30)
theorem wM_day2 : up2 (rM ρ th a) (6 + 7) 0 v = rM ρ th v := by
  funext k j
  simp only [up2_e, rM]
  grind (splits := 30)
theorem wM_tun : up2 (rM ρ th a) 0 1 v = rM (up2 ρ 0 5 v) th a := by
  funext k j
  simp only [up2_e, rM]
  grind (splits := 30)
theorem wM_str : up2 (rM ρ th a) 0 4 v = rM (up2 ρ 0 6 v) th a := by
  funext k j
  simp only [up2_e, rM]
  grind (splits := 30)
theorem wM_coi : up2 (rM ρ th a) 0 10 v = rM (up2 ρ 0 8 v) th a := by
  funext k j
  simp only [up2_e, rM]
  grind (splits := 30)
theorem wM_fin : up2 (rM ρ th a) 0 11 v = rM (up2 ρ 0 9 v) th a := by
  funext k j
  simp only [up2_e, rM]
  grind (splits := 30)
theorem wM_many (h : t < 6) : up2 (rM ρ th a) 1 t v = rM (up2 ρ (14 + 3 * t) 2 v) th a := by
  funext k j
  simp only [up2_e, rM]
  grind (splits := 30)
theorem wM_notes (h : t < 6) (hk : q < 16) : up2 (rM ρ th a) 2 (16 * t + q) v = rM (up2 ρ (15 + 3 * t) q v) th a := by
  funext k j
  simp only [up2_e, rM]
  grind (splits := 30)
theorem wM_lis (h : z < 8) : up2 (rM ρ th a) 3 z v = rM (up2 ρ (32 + 2 * z) 1 v) th a := by
  funext k j
  simp only [up2_e, rM]
  grind (splits := 30)
theorem wM_per (h : z < 8) : up2 (rM ρ th a) 4 z v = rM (up2 ρ (32 + 2 * z) 2 v) th a := by
  funext k j
  simp only [up2_e, rM]
  grind (splits := 30)
theorem wM_pai (h : z < 8) : up2 (rM ρ th a) 5 z v = rM (up2 ρ (32 + 2 * z) 3 v) th a := by
  funext k j
  simp only [up2_e, rM]
  grind (splits := 30)
theorem wM_ply (h : z < 8) (ht : t < 6) : up2 (rM ρ th a) 6 (6 * z + t) v = rM (up2 ρ (33 + 2 * z) t v) th a := by
  funext k j
  simp only [up2_e, rM]
  grind (splits := 30)
theorem wM_dam (h : i < 7) : up2 (rM ρ th a) 7 i v = rM (up2 ρ 13 i v) th a := by
  funext k j
  simp only [up2_e, rM]
  grind (splits := 30)
theorem wM_pip (hb : isP b) {m : Nat} (hm : 1 ≤ m ∧ m ≤ 4) (h : i < 12) : up2 (rM ρ th a) (b + 7 + m) i v = rM (up2 ρ (b + m) i v) th a := by
  rcases hb with rfl | rfl
  · funext k j
    simp only [up2_e, rM]
    grind (splits := 30)
  · funext k j
    simp only [up2_e, rM]
    grind (splits := 30)
/-- the times that a tune's pipes come are the class's own -/
theorem wM_times {t p : Nat} (h : t < 6) : rM (up2 ρ (16 + 3 * t) p v) th a = rM ρ th a := by
  funext k j
  simp only [up2_e, rM]
  grind (splits := 30)
def cpR (σ : gSt) (m : Nat) : gSt := fun k j => if k = 6 + m ∧ j < 12 then σ (1 + m) j else σ k j
theorem wM_cp {m : Nat} (hm : 1 ≤ m ∧ m ≤ 4) : up1 (rM ρ th a) (6 + 7 + m) (fun j => if j < 12 then rM ρ th a (1 + 7 + m) j else rM ρ th a (6 + 7 + m) j) = rM (cpR ρ m) th a := by
  funext k j
  by_cases hk : k = 6 + 7 + m
  · subst hk
    rw [up1_s]
    by_cases hj : j < 12
    · rw [if_pos hj, rM_pip (Or.inl rfl) hm hj, rM_pip (Or.inr rfl) hm hj]
      exact (if_pos (show 6 + m = 6 + m ∧ j < 12 from ⟨rfl, hj⟩)).symm
    · rw [if_neg hj]
      simp only [rM, cpR]
      grind (splits := 30)
  · rw [up1_n hk]
    simp only [rM, cpR]
    grind (splits := 30)
theorem cp_bec : cpR (cpR (cpR (cpR ρ 1) 2) 3) 4 = becR ρ 12 := by
  funext k j
  simp only [cpR, becR]
  grind (splits := 30)
end RM
def isI (v lo hi : Int32) : Int32 := if ¬ v < lo ∧ v ≤ hi then 1 else 0
theorem b10_t {p : Prop} [Decidable p] (h : ¬ (if p then (1 : Int32) else 0) = 0) : p := by
  by_cases q : p
  · exact q
  · rw [if_neg q] at h; exact absurd rfl h
theorem b10_f {p : Prop} [Decidable p] (h : (if p then (1 : Int32) else 0) = 0) : ¬ p := fun q => by
  rw [if_pos q] at h; exact absurd h (by decide)
theorem isI_pred {x m : Int32} {T : Nat} (hm : m = nI T) (hT : T < 2 ^ 30) : isI x 0 (m - 1) = if inb x m then 1 else 0 := by
  subst hm
  have e : ∀ y : Int32, y ≤ nI T - 1 ↔ y < nI T := fun y => by
    rw [Int32.le_iff_toInt_le, Int32.lt_iff_toInt_lt]
    have h1 : (nI T - nI 1).toInt = (T : Int) - 1 := pk_sub_toInt hT (by omega)
    have h2 : (nI T).toInt = T := nI_toInt (by omega)
    have h3 : (nI T - 1).toInt = (T : Int) - 1 := h1
    omega
  unfold isI
  by_cases h : ¬ x < 0 ∧ x < nI T
  · rw [if_pos h, if_pos ⟨h.1, (e x).mpr h.2⟩]
  · rw [if_neg h, if_neg (fun q => h ⟨q.1, (e x).mp q.2⟩)]
theorem isI_12 {x : Int32} : isI x 0 11 = if inb x 12 then 1 else 0 := isI_pred (m := 12) (T := 12) rfl (by omega)
theorem isI_7 {x : Int32} : isI x 0 6 = if inb x 7 then 1 else 0 := isI_pred (m := 7) (T := 7) rfl (by omega)
theorem isI_5 {x : Int32} : isI x 0 4 = if inb x 5 then 1 else 0 := isI_pred (m := 5) (T := 5) rfl (by omega)
theorem isI_9 {x : Int32} : isI x 0 8 = if inb x 9 then 1 else 0 := isI_pred (m := 9) (T := 9) rfl (by omega)
theorem sgR_out {ρ : gSt} {b t i k j : Nat} (h1 : k ≠ b + 1) (h2 : k ≠ b + 4) : sgR ρ b t i k j = ρ k j := by
  induction i with
  | zero => rfl
  | succ i ih =>
    simp only [sgR, snR]
    rw [up2_k h2, up2_k h1, ih]
theorem wM_times2 {σ : gSt} {th a w v : Int32} {t p : Nat} (h : t < 6) : rM (up2 (up2 σ (16 + 3 * t) p w) (14 + 3 * t) 2 v) th a = rM (up2 σ (14 + 3 * t) 2 v) th a := by
  rw [← wM_many h, ← wM_many h, wM_times h]
theorem tunI_up {ρ : gSt} {t k j : Nat} {v : Int32} (h : tunI ρ t) (hk : k < 14 ∨ 31 < k) (ht : t < 6) : tunI (up2 ρ k j v) t := by
  obtain ⟨L, hL, hL16, hLn, hLc⟩ := h
  have e : ∀ k2 j2, 14 + 3 * t ≤ k2 → k2 ≤ 16 + 3 * t → up2 ρ k j v k2 j2 = ρ k2 j2 := fun k2 j2 h1 h2 => up2_k (by omega)
  refine ⟨L, by rw [e _ _ (by omega) (by omega)]; exact hL, hL16, fun k2 hk2 => ?_, fun q hq => ?_⟩
  · rw [e _ _ (by omega) (by omega)]; exact hLn k2 hk2
  · rw [e _ _ (by omega) (by omega), show up2 ρ k j v (15 + 3 * t) = ρ (15 + 3 * t) from funext fun j2 => e _ _ (by omega) (by omega)]
    exact hLc q hq
theorem up2_id {ρ : gSt} {k j : Nat} : up2 ρ k j (ρ k j) = ρ := by
  funext a b
  rw [up2_e]
  by_cases h : a = k ∧ b = j
  · rw [if_pos h, h.1, h.2]
  · rw [if_neg h]
theorem up2_up2 {ρ : gSt} {k j : Nat} {v w : Int32} : up2 (up2 ρ k j v) k j w = up2 ρ k j w := by
  funext a b
  rw [up2_e, up2_e, up2_e]
  split <;> rfl
theorem cmB_up {ρ : gSt} {b : Nat} {v : Int32} : cmB (up2 ρ 0 7 v) b = cmB ρ b := by
  funext j
  simp only [cmB]
  rw [up2_k (by omega), up2_k (by omega), up2_k (by omega)]
theorem ntR_up {ρ : gSt} {b i : Nat} {u v : Int32} : ntR (up2 ρ 0 7 v) b u i = up2 (ntR ρ b u i) 0 7 v := by
  funext k j
  simp only [ntR, cmB_up, up2_e]
  grind (splits := 20)
theorem rM_cg {σ1 σ2 : gSt} {th a : Int32} (h : ∀ k j, (k < 32 ∨ k % 2 = 0 ∨ (k < 48 ∧ j < 6)) → σ1 k j = σ2 k j) : rM σ1 th a = rM σ2 th a := by
  funext k j
  have e1 : (if j < 6 then σ1 (14 + 3 * j) 2 else 0) = (if j < 6 then σ2 (14 + 3 * j) 2 else 0) := by
    by_cases q : j < 6
    · rw [if_pos q, if_pos q, h _ _ (by omega)]
    · rw [if_neg q, if_neg q]
  have e2 : (if j < 96 then σ1 (15 + 3 * (j / 16)) (j % 16) else 0) = (if j < 96 then σ2 (15 + 3 * (j / 16)) (j % 16) else 0) := by
    by_cases q : j < 96
    · rw [if_pos q, if_pos q, h _ _ (by omega)]
    · rw [if_neg q, if_neg q]
  have e6 : (if j < 48 then σ1 (33 + 2 * (j / 6)) (j % 6) else 0) = (if j < 48 then σ2 (33 + 2 * (j / 6)) (j % 6) else 0) := by
    by_cases q : j < 48
    · rw [if_pos q, if_pos q, h _ _ (by omega)]
    · rw [if_neg q, if_neg q]
  have e9 : (if k < 18 then (if j < 12 then σ1 (k - 7) j else 0) else 0) = (if k < 18 then (if j < 12 then σ2 (k - 7) j else 0) else 0) := by
    by_cases q : k < 18
    · rw [if_pos q, if_pos q, h (k - 7) j (by omega)]
    · rw [if_neg q, if_neg q]
  simp only [rM]
  rw [e1, e2, e6, e9, h 0 5 (by omega), h 0 6 (by omega), h 0 8 (by omega), h 0 9 (by omega), h 0 7 (by omega), h 13 j (by omega), h (32 + 2 * j) 1 (by omega), h (32 + 2 * j) 2 (by omega), h (32 + 2 * j) 3 (by omega)]
theorem rest_eq {ρ : gSt} {th a v : Int32} {d n S : Nat} (hS : S ≤ 8) (hZ : ∀ z, S ≤ z → z < 8 → ∀ t, t < 6 → ρ (33 + 2 * z) t = 0) : rM (fgA (up2 (nsR ρ 1 d n) 0 7 v) 8) th a = rM (up2 (fgA (nsR ρ 1 d n) S) 0 7 v) th a := by
  apply rM_cg
  intro k j h
  by_cases h0 : k = 0
  · subst h0
    by_cases h7 : j = 7
    · subst h7
      rw [up2_s]
      simp only [fgA]
      rw [if_neg (by omega), up2_s]
    · rw [up2_j h7]
      simp only [fgA]
      rw [if_neg (by omega), if_neg (by omega), up2_j h7]
  · rw [up2_k h0]
    simp only [fgA]
    rw [up2_k h0]
    by_cases c1 : 33 ≤ k ∧ k < 33 + 2 * 8 ∧ k % 2 = 1 ∧ j < 6
    · rw [if_pos c1]
      by_cases c2 : k < 33 + 2 * S
      · rw [if_pos ⟨c1.1, c2, c1.2.2⟩]
      · rw [if_neg (fun q => c2 q.2.1), nsR_out (k := k) (by omega)]
        have hq := hZ ((k - 33) / 2) (by omega) (by omega) j c1.2.2.2
        rw [show 33 + 2 * ((k - 33) / 2) = k by omega] at hq
        exact hq.symm
    · rw [if_neg c1, if_neg (fun q => c1 ⟨q.1, by omega, q.2.2⟩)]
/-- the first i of the played row are 0 -/
def fpR (ρ : gSt) (i : Nat) : gSt := fun k j => if 33 ≤ k ∧ k < 49 ∧ k % 2 = 1 ∧ j < 6 ∧ 6 * ((k - 33) / 2) + j < i then 0 else ρ k j
theorem fpR_0 {ρ : gSt} : fpR ρ 0 = ρ := by
  funext k j
  simp only [fpR]
  rw [if_neg (by omega)]
theorem fpR_8 {ρ : gSt} : fpR ρ 48 = fgA ρ 8 := by
  funext k j
  simp only [fpR, fgA]
  grind
theorem fpR_s {ρ : gSt} {i : Nat} (h : i < 48) : up2 (fpR ρ i) (33 + 2 * (i / 6)) (i % 6) 0 = fpR ρ (i + 1) := by
  funext k j
  simp only [up2_e, fpR]
  grind
theorem mulN (c t : Nat) : nI c * nI t = nI (c * t) := pk_mul c t
def xAd (ad : Nat → Nat) (n q : Nat) : Nat → Nat := fun k => if k = n then q else ad k
def xCz (cz : Nat → (Nat → Int32) → va_E) (n : Nat) (cA : ClassId) (len : Nat) : Nat → (Nat → Int32) → va_E := fun k r => if k = n then .inl (cA, len, .inl r) else cz k r
def xRo (ρ : gSt) (n : Nat) : gSt := fun k => if k = n then (fun _ => 0) else ρ k
section XW
variable {p : Program} {l : Launch} {e : Env} {R : Room} {s : State} {m : MethodId} {args : Array Value} {below : List Frame} {meth : Method} {c : Code} {Q : State → Prop}
variable {cc : ByteArray} {nL : Nat} {Ts : List Cond} {own : String} {D : va_G} {cy : Nat → ClassId} {A : Nat → Prop}
variable {n : Nat} {ad : Nat → Nat} {cz : Nat → (Nat → Int32) → va_E} {ρ : gSt} {cells slots pc : Nat} {ls ls' : List (Nat × Value)} {st st0 rest : List Value}
variable {k ci j k2 len lenx q : Nat} {cA cB : ClassId}
theorem gFI_x (h : gFI cz k ci j) (hk : k ≠ n) : gFI (xCz cz n cA lenx) k ci j := fun r => by
  obtain ⟨fs, h1, h2, h3, h4⟩ := h r
  refine ⟨fs, by simp only [xCz]; rw [if_neg hk]; exact h1, h2, h3, fun v => by simp only [xCz]; rw [if_neg hk]; exact h4 v⟩
theorem gFR_x (h : gFR cz ad k ci j k2) (hk : k ≠ n) (hk2 : k2 ≠ n) : gFR (xCz cz n cA lenx) (xAd ad n q) k ci j k2 := fun r => by
  obtain ⟨fs, h1, h2⟩ := h r
  exact ⟨fs, by simp only [xCz]; rw [if_neg hk]; exact h1, by simp only [xAd]; rw [if_neg hk2]; exact h2⟩
theorem gOb_x (h : gOb cz k ci) (hk : k ≠ n) : gOb (xCz cz n cA lenx) k ci := fun r => by
  obtain ⟨fs, h1⟩ := h r
  exact ⟨fs, by simp only [xCz]; rw [if_neg hk]; exact h1⟩
theorem gAI_x (h : gAI cz cB k len) (hk : k ≠ n) : gAI (xCz cz n cA lenx) cB k len := fun r => by simp only [xCz]; rw [if_neg hk]; exact h r
theorem gAI_n : gAI (xCz cz n cA lenx) cA n lenx := fun r => by simp [xCz]
theorem gSub_x : gSub (n + 1) (xAd ad n q) (xCz cz n cA lenx) 0 n ad cz := ⟨by omega, fun j hj => by
  rw [Nat.zero_add]
  exact ⟨by simp only [xAd]; rw [if_neg (by omega)], fun r => by simp only [xCz]; rw [if_neg (by omega)]⟩⟩
theorem gWl_x : gWl (n + 1) (xAd ad n q) (xCz cz n cA lenx) (xRo ρ n) = gWl n ad cz ρ ++ [(q, .inl (cA, lenx, .inl (fun _ => 0)))] := by
  simp only [gWl, List.range_succ, List.map_append, List.map_cons, List.map_nil]
  congr 1
  · apply List.map_congr_left
    intro k hk
    have : k ≠ n := by have := List.mem_range.mp hk; omega
    simp only [xAd, xCz, xRo]
    rw [if_neg this, if_neg this, if_neg this]
  · simp [xAd, xCz, xRo]
theorem g_alen (X : gX p m c cc nL s args Ts own D cy A) (k : Nat) (t0 : Nat) {ty : FieldType} (hk : k < n) (hF : gAI cz cA k len) (ht : (gT cy)[t0]? = some (cA, ty)) (hd : decode cc pc = .ok (.arraylength, 1)) (kk : GW p l e R s m args below meth c Q nL D A n ad cz ρ cells slots (pc + 1) ls (.int (nI len) :: st)) : GW p l e R s m args below meth c Q nL D A n ad cz ρ cells slots pc ls (.ref (ad k) :: st) := fun H locs la hP hD hS hl => va_alen (x := (len, .inl (ρ k))) X.1.1 X.1.2.1 X.2.1 hP k t0 ((gWl_get hk).trans (by rw [hF (ρ k)])) ht rfl hd (kk H locs la hP hD hS hl)
theorem g_newi (X : gX p m c cc nL s args Ts own D cy A) (len : Nat) (hlen : len < 2 ^ 20) (hw : Cond.arrayClass .int ∈ wAll) (hroom : cells + 1 ≤ R.cells ∧ slots + len ≤ R.slots) (hd : decode cc pc = .ok (.newarray .int, 2)) (kk : ∀ q, GW p l e R s m args below meth c Q nL D A (n + 1) (xAd ad n q) (xCz cz n (cy 0) len) (xRo ρ n) (cells + 1) (slots + len) (pc + 2) ls (.ref (xAd ad n q n) :: st)) : GW p l e R s m args below meth c Q nL D A n ad cz ρ cells slots pc ls (.int (nI len) :: st) := fun H locs la hP hD hS hl => by
  refine va_newa (atype := .int) (a0 := (len, .inl (fun _ => 0))) X.1.1 X.1.2.1 (X.1.2.2.2.2 _ (X.2.2.2.1 _ hw)) rfl X.2.1 hP hD hS X.2.2.1 (fun _ => rfl) (fun h => nI_pos (show len < 2 ^ 31 by omega) h) (nI_clamp (by omega)) (by show len * 4 ≤ _; omega) hroom.1 hroom.2 hd (fun q cA H1 hK1 hP1 hD1 hS1 => ?_)
  have e0 : cA = cy 0 := by
    have h1 := (hK1.2 5 (cA, .int) rfl).2
    have h2 := (X.2.1.2 0 (cy 0, .int) rfl).2
    exact Option.some.inj (h1.symm.trans h2)
  subst e0
  rw [← gWl_x] at hP1 hD1
  have e9 : xAd ad n q n = q := by simp [xAd]
  have := kk q H1 locs la hP1 hD1 hS1 hl
  rw [e9] at this
  exact this
theorem g_copy (X : gX p m c cc nL s args Ts own D cy A) (k1 k2 : Nat) (hk1 : k1 < n) (hk2 : k2 < n) {index : Nat} (hw1 : Cond.methodLink own index arraycopyName ∈ wAll) (hw2 : Cond.native arraycopyName ∈ wAll) (hw3 : Cond.static arraycopyName ∈ wAll) (hw4 : Cond.initialized "java/lang/System" ∈ wAll) (h1 : gAI cz (cy 0) k1 12) (h2 : gAI cz (cy 0) k2 12) (hR : 1 ≤ R.frames ∧ (st.map fun v => v.category).sum + (nativeFrameWords "java/lang/System" "arraycopy" 5 + 11) ≤ R.locals) (hd : decode cc pc = .ok (.invokestatic index, 3)) (kk : ∀ ρ1, ρ1 = up1 ρ k2 (fun j => if j < 12 then ρ k1 j else ρ k2 j) → GW p l e R s m args below meth c Q nL D A n ad cz ρ1 cells slots (pc + 3) ls st) : GW p l e R s m args below meth c Q nL D A n ad cz ρ cells slots pc ls (.int 12 :: .int 0 :: .ref (ad k2) :: .int 0 :: .ref (ad k1) :: st) := fun H locs la hP hD hS hl => by
  refine va_copyi X.1.1 X.1.2.1 (X.1.2.2.1.trans hl.1.symm) X.1.2.2.2.1 (X.1.2.2.2.2 _ (X.2.2.2.1 _ hw1)) (X.1.2.2.2.2 _ (X.2.2.2.1 _ hw2)) (X.1.2.2.2.2 _ (X.2.2.2.1 _ hw3)) (X.1.2.2.2.2 _ (X.2.2.2.1 _ hw4)) X.2.1 hP hD hS k1 k2 0 0 ((gWl_get hk1).trans (by rw [h1 (ρ k1)])) ((gWl_get hk2).trans (by rw [h2 (ρ k2)])) rfl rfl rfl (by decide) (by decide) (by decide) (by decide) (by decide) (fun i _ => rfl) hR.1 hR.2 hd (fun H1 locs1 hP1 hD1 hS1 => ?_)
  have e8 : va_cpy (ρ k1) (ρ k2) (0 : Int32).toNatClampNeg (0 : Int32).toNatClampNeg (12 : Int32).toNatClampNeg = fun j => if j < 12 then ρ k1 j else ρ k2 j := by
    funext j
    show (if 0 ≤ j ∧ j < 0 + 12 then ρ k1 (0 + (j - 0)) else ρ k2 j) = _
    by_cases hj : j < 12
    · rw [if_pos ⟨Nat.zero_le _, by omega⟩, if_pos hj, Nat.sub_zero, Nat.zero_add]
    · rw [if_neg (by omega), if_neg hj]
  rw [e8, gWl_set hk2 (h2 _).symm] at hP1 hD1
  exact kk _ rfl H1 locs1 la hP1 hD1 hS1 hl
variable {y : MethodName} {rm : Room} {bytes : ByteArray} {maxL nA index mc ms : Nat} {ret : Option FieldType} {C : String} {T : u_T} {N : Nat} {As : List Value}
variable {n' : Nat} {ad' : Nat → Nat} {cz' : Nat → (Nat → Int32) → va_E}
/-- a call that changes nothing, on some of the cells -/
theorem g_pureVi (X : gX p m c cc nL s args Ts own D cy A) {post : Int32 → gSt → Prop} (σ : gSt) (hσ : ∀ j, j < n' → cz' j (ρ (0 + j)) = cz' j (σ j)) (k0 : Nat) (hM : gMI l y bytes maxL ret rm D cy n' ad' cz' (.ref (ad k0) :: As) σ post mc ms) (hL : gLkV own index C y bytes maxL ret nA) (hR : rm.cells = mc ∧ rm.slots = ms ∧ rm.frames + 1 ≤ R.frames ∧ 8 + (maxL + 11) + rm.locals ≤ R.locals) (hs : gSub n ad cz 0 n' ad' cz') (hk0 : k0 < n) (hO : gOb cz k0 ci) (hc : vwCl[ci]? = some (C, T, N)) (hn : As.length = nA) (hst : st0 = As.reverse ++ .ref (ad k0) :: rest) (hcat : (rest.map fun v => v.category).sum ≤ 8) (hd : decode cc pc = .ok (.invokevirtual index, 3)) (hroom : cells + mc ≤ R.cells ∧ slots + ms ≤ R.slots) (hpure : ∀ r ρ1, post r ρ1 → ρ1 = σ) (kk : ∀ r : Int32, post r σ → GW p l e R s m args below meth c Q nL D A n ad cz ρ (cells + mc) (slots + ms) (pc + 3) ls (.int r :: rest)) : GW p l e R s m args below meth c Q nL D A n ad cz ρ cells slots pc ls st0 := by
  intro H locs la hP hD hS hl
  have hfree := gA_sub hs hD hS X.2.2.1
  obtain ⟨fs9, hfs9⟩ := hO (ρ k0)
  exact va_calli (va_runV X.1 (hM H.size) (gCwV X.1.2.2.2.2 X.2.2.2.1 hL hR) ⟨gPc_blind, va_recv X.2.1 hP hc ((gWl_get hk0).trans (by rw [hfs9])), fun U hU hW => ⟨rfl, by rw [hU], by rw [hU]; exact gP_congr hσ (gP_sub hs hP), va_K.moved hW.alike X.2.1, gInj_sub hs (gD_inj hD), gNst_warm hW X.2.2.2.2⟩⟩ rfl hn hl.1 hst (lv_room hcat) hd hroom) hS (fun q _ h => hfree q h) hfree (fun r ρ1 t H1 locs1 ht hvm hw hB hz1 hk1 hS1 => by
    have e1 := hpure r ρ1 hw
    subst e1
    have hB1 : va_P D vwCl (gWl n' ad' cz' ρ1) H1 := by rw [← ht]; exact hB
    refine kk r hw H1 locs1 la (gP_congr (fun k hk => ?_) (gP_back hs (gD_inj hD) hP hk1 hB1)) (gD_of (gD_inj hD) (fun _ hk => gD_in hD hk)) hS1 hl
    simp only [gBack]
    by_cases hk9 : 0 ≤ k ∧ k < 0 + n'
    · rw [if_pos hk9, Nat.sub_zero]
      have h1 := hσ k (by omega)
      have h2 := (hs.2 k (by omega)).2
      rw [Nat.zero_add] at h1 h2
      rw [← h2, ← h2, h1]
    · rw [if_neg hk9])
end XW
