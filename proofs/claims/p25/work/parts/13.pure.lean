/-! The calls as functions of the class's cells: the answer's kind (0: it returns; 1, 2: which of its exceptions), the answer, the cells behind it -/
abbrev inb (x m : Int32) : Prop := ¬ x < 0 ∧ x < m
abbrev inl (x m : Int32) : Prop := ¬ x < 0 ∧ x ≤ m
abbrev ix (x : Int32) : Nat := x.toNatClampNeg
abbrev gSt : Type := Nat → Nat → Int32
abbrev gOut : Type := Nat × Int32 × gSt
def barF (ρ : gSt) : gOut := if ρ 0 5 = 6 then (1, 0, ρ) else (0, ρ 0 5, up2 ρ 0 5 (ρ 0 5 + 1))
def pinF (ρ : gSt) (x y : Int32) : gOut := if inb x (ρ 0 5) then (if inb y 12 then (if ρ (14 + 3 * ix x) 2 = 16 then (2, 0, ρ) else (0, ρ (14 + 3 * ix x) 2 + 1, up2 (up2 (up2 ρ (15 + 3 * ix x) (ix (ρ (14 + 3 * ix x) 2)) y) (16 + 3 * ix x) (ix y) (ρ (16 + 3 * ix x) (ix y) + 1)) (14 + 3 * ix x) 2 (ρ (14 + 3 * ix x) 2 + 1))) else (1, 0, ρ)) else (1, 0, ρ)
def notF (ρ : gSt) (x y : Int32) : gOut := if inb x (ρ 0 5) then (if inb y (ρ (14 + 3 * ix x) 2) then (0, ρ (15 + 3 * ix x) (ix y), ρ) else (1, 0, ρ)) else (1, 0, ρ)
def strF (ρ : gSt) (x y : Int32) : gOut := if inl x 90 then (if inl y 127 then (if ρ 0 6 = 8 then (2, 0, ρ) else (0, ρ 0 6, up2 (up2 (up2 ρ (32 + 2 * ix (ρ 0 6)) 1 x) (32 + 2 * ix (ρ 0 6)) 2 y) 0 6 (ρ 0 6 + 1))) else (1, 0, ρ)) else (1, 0, ρ)
def perF (ρ : gSt) (x y : Int32) : gOut := if inb x (ρ 0 6) then (if inl y 127 then (0, ρ (32 + 2 * ix x) 2, up2 ρ (32 + 2 * ix x) 2 y) else (2, 0, ρ)) else (1, 0, ρ)
def damF (ρ : gSt) (x y : Int32) : gOut := if inb x 7 then (if inl y 5 then (0, ρ 13 (ix x), up2 ρ 13 (ix x) y) else (2, 0, ρ)) else (1, 0, ρ)
def finR (ρ : gSt) : gSt := up2 (up2 ρ 0 8 (ρ 0 8 - mnI 10 (ρ 0 8))) 0 9 (ρ 0 9 + mnI 10 (ρ 0 8))
def plyR (ρ : gSt) (z t : Nat) : gSt := wdR (up2 (up2 (up2 ρ 0 8 (ρ 0 8 + pyN ρ z t)) (32 + 2 * z) 3 (ρ (32 + 2 * z) 3 + pyN ρ z t)) (33 + 2 * z) t (ρ (33 + 2 * z) t + 1)) 1 t 12
def plaF (ρ : gSt) (x y : Int32) : gOut := if inb x (ρ 0 6) then (if inb y (ρ 0 5) then (if ρ (14 + 3 * ix y) 2 = 0 then (2, 0, ρ) else (if pmF (ρ (32 + 2 * ix x) 2) (wdF ρ) = 0 then (0, -mnI 10 (ρ 0 8), finR ρ) else (0, pyN ρ (ix x) (ix y), plyR ρ (ix x) (ix y)))) else (1, 0, ρ)) else (1, 0, ρ)
def tunF (ρ : gSt) (x y : Int32) : gOut := if inb x 12 then (if ¬ y < -120 ∧ y ≤ 120 then (0, hd (ρ 3 (ix x) + y), up2 ρ 3 (ix x) (hd (ρ 3 (ix x) + y))) else (2, 0, ρ)) else (1, 0, ρ)
def felF (ρ : gSt) (x : Int32) : gOut := if inb x 12 then (if ρ 0 8 < 4 then (2, 0, ρ) else (0, ρ 2 (ix x), up2 (up2 ρ 0 8 (ρ 0 8 - 4)) 2 (ix x) 0)) else (1, 0, ρ)
def pipF (ρ : gSt) (x y : Int32) : gOut := if inb x 12 then (if inb y 5 then (0, tellF ρ 1 (ix x) (ix y), ρ) else (1, 0, ρ)) else (1, 0, ρ)
def souF (ρ : gSt) (x : Int32) : gOut := if inb x (ρ 0 5) then (0, sndC ρ 1 (ix x) (-1), ρ) else (1, 0, ρ)
def tolF (ρ : gSt) (x y : Int32) : gOut := if inb x (ρ 0 6) then (if inb y 5 then (0, toldF ρ (ix x) (ix y) (wdF ρ), ρ) else (1, 0, ρ)) else (1, 0, ρ)
def couF (ρ : gSt) (x : Int32) : gOut := if inb x 9 then (0, countF ρ (ix x), ρ) else (1, 0, ρ)
def fgA (ρ : gSt) (q : Nat) : gSt := fun k j => if 33 ≤ k ∧ k < 33 + 2 * q ∧ k % 2 = 1 ∧ j < 6 then 0 else ρ k j
def resR (ρ : gSt) (n : Nat) : gSt := up2 (fgA (nsR ρ 1 (ix (ρ 0 7)) n) (ix (ρ 0 6))) 0 7 (nI (ix (ρ 0 7) + n))
def resF (ρ : gSt) (x : Int32) : gOut := if ¬ x < 1 ∧ x ≤ 60 then (0, csF ρ 1 (ix (ρ 0 7)) (ix x), resR ρ (ix x)) else (1, 0, ρ)
def payF (ρ : gSt) (x y : Int32) : gOut := if inb x (ρ 0 6) then (if inb y (ρ 0 5) then (0, pyN ρ (ix x) (ix y), ρ) else (1, 0, ρ)) else (1, 0, ρ)
def bsP (ρ : gSt) (z : Nat) : Nat → Int32 × Int32
  | 0 => (0, -1)
  | k + 1 => if pyN ρ z k ≤ (bsP ρ z k).1 then bsP ρ z k else (pyN ρ z k, nI k)
def besF (ρ : gSt) (x : Int32) : gOut := if inb x (ρ 0 6) then (0, (bsP ρ (ix x) (ix (ρ 0 5))).2, ρ) else (1, 0, ρ)
def wsP (ρ : gSt) (t : Nat) : Nat → Int32 × Int32
  | 0 => (sndC ρ 1 t (-1), -1)
  | k + 1 => if sndC ρ 1 t (nI k) ≤ (wsP ρ t k).1 then wsP ρ t k else (sndC ρ 1 t (nI k), nI k)
def worF (ρ : gSt) (x : Int32) : gOut := if inb x (ρ 0 5) then (0, (wsP ρ (ix x) 12).2, ρ) else (1, 0, ρ)
def forR (ρ : gSt) (n : Nat) : gSt := nsR (becR ρ 12) 6 (ix (ρ 0 7)) n
def forF (ρ : gSt) (x y : Int32) : gOut := if ¬ x < 1 ∧ x ≤ 60 then (if ¬ y < 5 ∧ y ≤ 7 then (0, sumUpF (forR ρ (ix x)) 6 (ix y), forR ρ (ix x)) else (2, 0, ρ)) else (1, 0, ρ)
/-- the trial behind k plays -/
def trR (ρ : gSt) (t : Nat) : Nat → gSt
  | 0 => becR ρ 12
  | k + 1 => wdR (trR ρ t k) 6 t 12
def laK (ρ : gSt) (t : Nat) : Nat → Nat → Nat
  | 0, k => k
  | f + 1, k => if sndC (trR ρ t k) 6 t (-1) < 30 then k else laK ρ t f (k + 1)
def lasF (ρ : gSt) (x : Int32) : gOut := if inb x (ρ 0 5) then (0, nI (laK ρ (ix x) 99 0), trR ρ (ix x) (laK ρ (ix x) 99 0)) else (1, 0, ρ)
def meaF (ρ : gSt) : UInt64 := if ρ 0 5 = 0 then 0 else FP.ddiv (FP.i2d (sumI (fun t => sndC ρ 1 t (-1)) (ix (ρ 0 5)))) (FP.i2d (ρ 0 5))
def fold1 (g : Nat → Int64 → Int64) : Nat → Int64 → Int64
  | 0, d => d
  | k + 1, d => g k (fold1 g k d)
def digF (ρ : gSt) : Int64 := fold1 (msF ρ) (ix (ρ 0 6)) (fold1 (mtF ρ) (ix (ρ 0 5)) (mxs (fun j => ρ 13 j) 7 (fold1 (fun i d => mxs (fun w => tellF ρ 1 i w) 5 d) 12 (mxs (countF ρ) 9 1097))))
/-- what holds of the class's cells between two calls, behind N of them -/
def cntI (f : Nat → Int32) (x : Int32) (k : Nat) : Int32 := sumI (fun j => if f j = x then 1 else 0) k
def tunI (ρ : gSt) (t : Nat) : Prop := ∃ L : Nat, ρ (14 + 3 * t) 2 = nI L ∧ L ≤ 16 ∧ (∀ k, k < L → ∃ q : Nat, q < 12 ∧ ρ (15 + 3 * t) k = nI q) ∧ ∀ q, q < 12 → ρ (16 + 3 * t) q = cntI (ρ (15 + 3 * t)) (nI q) L
def strI (ρ : gSt) (N z : Nat) : Prop := (∃ u : Nat, u ≤ 90 ∧ ρ (32 + 2 * z) 1 = nI u) ∧ ∀ t, t < 6 → ∃ h : Nat, h ≤ N ∧ ρ (33 + 2 * z) t = nI h
def pipI (ρ : gSt) (b i : Nat) : Prop := (∃ w : Nat, w ≤ 30 ∧ ρ (b + 1) i = nI w) ∧ (-60 ≤ ρ (b + 2) i ∧ ρ (b + 2) i ≤ 60) ∧ (ρ (b + 3) i = 0 ∨ ρ (b + 3) i = 1) ∧ (ρ (b + 4) i = 0 ∨ ρ (b + 4) i = 1)
def Inv (ρ : gSt) (N T S d : Nat) : Prop := ρ 0 5 = nI T ∧ T ≤ 6 ∧ ρ 0 6 = nI S ∧ S ≤ 8 ∧ ρ 0 7 = nI d ∧ d ≤ 60 * N ∧ N ≤ 600 ∧ (∀ t, t < 6 → tunI ρ t) ∧ (∀ z, z < 8 → strI ρ N z) ∧ (∀ i, i < 12 → pipI ρ 1 i) ∧ (∀ z, S ≤ z → z < 8 → ∀ t, t < 6 → ρ (33 + 2 * z) t = 0) ∧ ∀ z, z < 8 → ∀ t, T ≤ t → t < 6 → ρ (33 + 2 * z) t = 0
abbrev hdd (y : Int32) : Int32 := hd y
theorem inb_N {x m : Int32} {T : Nat} (hm : m = nI T) (hT : T < 2 ^ 31) (h : inb x m) : ∃ t : Nat, t < T ∧ x = nI t := by
  rcases pk_ix x hT with q | q | q
  · exact absurd q h.1
  · rw [hm] at h
    rw [Int32.le_iff_toInt_le] at q
    have := Int32.lt_iff_toInt_lt.mp h.2
    omega
  · exact q
theorem inl_N {x m : Int32} {K : Nat} (hm : m = nI K) (hK : K < 2 ^ 30) (h : inl x m) : ∃ t : Nat, t ≤ K ∧ x = nI t := by
  subst hm
  exact nI_of2 (nI_toInt (by omega)) h.1 h.2
theorem inb_of {t T : Nat} (h : t < T) (hT : T < 2 ^ 31) : inb (nI t) (nI T) := ⟨fun q => by
  rw [show (0 : Int32) = nI 0 from rfl, nI_ltI (by omega) (by omega)] at q
  omega, (nI_ltI (by omega) hT).mpr h⟩
theorem inl_of {t T : Nat} (h : t ≤ T) (hT : T < 2 ^ 31) : inl (nI t) (nI T) := ⟨fun q => by
  rw [show (0 : Int32) = nI 0 from rfl, nI_ltI (by omega) (by omega)] at q
  omega, (nI_leI (by omega) hT).mpr h⟩
theorem nig_N {x : Int32} (h : ¬ x < 1 ∧ x ≤ 60) : ∃ n : Nat, (1 ≤ n ∧ n ≤ 60) ∧ x = nI n := by
  have h0 : ¬ x < 0 := fun q => h.1 (Int32.lt_iff_toInt_lt.mpr (by have := Int32.lt_iff_toInt_lt.mp q; have e0 : (0 : Int32).toInt = 0 := rfl; have e1 : (1 : Int32).toInt = 1 := rfl; omega))
  obtain ⟨n, hn, rfl⟩ := nI_of2 (M := 60) (n := 60) rfl h0 h.2
  refine ⟨n, ⟨?_, hn⟩, rfl⟩
  rcases Nat.eq_zero_or_pos n with q | q
  · subst q
    exact absurd (by decide) h.1
  · exact q
theorem nI_ne {a b : Nat} (h : a ≠ b) (ha : a < 2 ^ 31) (hb : b < 2 ^ 31) : ¬ nI a = nI b := fun q => h ((nI_eq ha hb).mp q)
theorem fs_N {y : Int32} (h : ¬ y < 5 ∧ y ≤ 7) : ∃ w : Nat, (w = 5 ∨ w = 6 ∨ w = 7) ∧ y = nI w := by
  have h0 : ¬ y < 0 := fun q => h.1 (Int32.lt_iff_toInt_lt.mpr (by have := Int32.lt_iff_toInt_lt.mp q; have e0 : (0 : Int32).toInt = 0 := rfl; have e1 : (5 : Int32).toInt = 5 := rfl; omega))
  obtain ⟨n, hn, rfl⟩ := nI_of2 (M := 7) (n := 7) rfl h0 h.2
  refine ⟨n, ?_, rfl⟩
  rcases Nat.lt_or_ge n 5 with q | q
  · exact absurd ((nI_ltI (b := 5) (by omega) (by omega)).mpr q) h.1
  · omega
theorem fgA_0 {ρ : gSt} : fgA ρ 0 = ρ := by
  funext k j
  unfold fgA
  rw [if_neg (by omega)]
theorem laK_spec {ρ : gSt} {t K : Nat} (hK : K ≤ 99) (h1 : ∀ j, j < K → ¬ sndC (trR ρ t j) 6 t (-1) < 30) (h2 : K = 99 ∨ sndC (trR ρ t K) 6 t (-1) < 30) : laK ρ t 99 0 = K := by
  have key : ∀ f k, k ≤ K → f + k = 99 → laK ρ t f k = K := by
    intro f
    induction f with
    | zero => intro k hk h; simp only [laK]; omega
    | succ f ih =>
      intro k hk h
      simp only [laK]
      by_cases hq : k = K
      · subst hq
        rw [if_pos (h2.resolve_left (by omega))]
      · rw [if_neg (h1 k (by omega))]
        exact ih (k + 1) (by omega) (by omega)
  exact key 99 0 (by omega) (by omega)
def xq1 (e1 : String) (k : Nat) : String → Prop := fun E => E = e1 ∧ k = 1
def xq2 (e1 e2 : String) (k : Nat) : String → Prop := fun E => (E = e1 ∧ k = 1) ∨ (E = e2 ∧ k = 2)
