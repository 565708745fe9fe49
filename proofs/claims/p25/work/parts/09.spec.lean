/-! What the methods answer, in plain words over the class's cells -/
def mnI (x y : Int32) : Int32 := if y < x then y else x
def mxI (x y : Int32) : Int32 := if x < y then y else x
def ab (o : Int32) : Int32 := if 0 ≤ o then o else 0 - o
def hm (w o c : Int32) : Int32 := if c = 0 then mnI 60 (ab o + 2 * w) else 60
def hP (ρ : Nat → Nat → Int32) (b i : Nat) : Int32 := hm (ρ (b + 1) i) (ρ (b + 2) i) (ρ (b + 3) i)
def sumI (f : Nat → Int32) : Nat → Int32
  | 0 => 0
  | k + 1 => sumI f k + f k
theorem sumI_s {f : Nat → Int32} {k : Nat} : sumI f (k + 1) = sumI f k + f k := rfl
theorem sumI_congr {f g : Nat → Int32} {k : Nat} (h : ∀ j, j < k → f j = g j) : sumI f k = sumI g k := by
  induction k with
  | zero => rfl
  | succ k ih => rw [sumI_s, sumI_s, ih (fun j hj => h j (by omega)), h k (by omega)]
def hd (y : Int32) : Int32 := mxI (-60) (mnI 60 y)
def b01 (x : Int32) : Int32 := if x = 0 then 0 else 1
def crc (ρ : Nat → Nat → Int32) (b : Nat) : Int32 := sumI (fun j => b01 (ρ (b + 3) j)) 12
def wrn (ρ : Nat → Nat → Int32) (b : Nat) : Int32 := sumI (fun j => ρ (b + 1) j) 12
def ofn (ρ : Nat → Nat → Int32) (b : Nat) : Int32 := sumI (fun j => ab (ρ (b + 2) j)) 12
def sumUpF (ρ : Nat → Nat → Int32) (b w : Nat) : Int32 := if w = 5 then crc ρ b else if w = 6 then wrn ρ b else ofn ρ b
def tellF (ρ : Nat → Nat → Int32) (b i w : Nat) : Int32 := if w = 0 then ρ (b + 1) i else if w = 1 then ρ (b + 2) i else if w = 2 then b01 (ρ (b + 3) i) else if w = 3 then hP ρ b i else b01 (ρ (b + 4) i)
/-- the first i pipes of the trial are as the organ's -/
def becR (ρ : Nat → Nat → Int32) (i : Nat) : Nat → Nat → Int32 := fun k j => if (k = 7 ∨ k = 8 ∨ k = 9 ∨ k = 10) ∧ j < i then ρ (k - 5) j else ρ k j
def clrR (ρ : Nat → Nat → Int32) (b i : Nat) : Nat → Nat → Int32 := fun k j => if k = b + 3 ∧ j < i then 0 else ρ k j
def cmB (ρ : Nat → Nat → Int32) (b j : Nat) : Int32 := if ρ (b + 1) j < 10 then 0 else if ρ (b + 4) j = 0 then (if ρ (b + 3) j = 0 then 1 else 0) else 0
def par (d : Int32) (j : Nat) : Int32 := if nI (j % 2) = 0 then d else -d
/-- a night, with damp d, over the first i pipes -/
def ntR (ρ : Nat → Nat → Int32) (b : Nat) (d : Int32) (i : Nat) : Nat → Nat → Int32 := fun k j =>
  if j < i then (if k = b + 2 then hd (ρ k j + par d j) else if k = b + 3 then (if cmB ρ b j = 1 then 1 else ρ k j) else if k = b + 4 then 0 else ρ k j) else ρ k j
theorem remN {a : Nat} (h : a < 2 ^ 31) : nI a - nI a / 2 * 2 = nI (a % 2) := pk_rem (d := 2) h (by omega) (by omega)
theorem remN7 {a : Nat} (h : a < 2 ^ 31) : nI a - nI a / 7 * 7 = nI (a % 7) := pk_rem (d := 7) h (by omega) (by omega)
def pmF (p w : Int32) : Int32 := if (p >>> (w &&& 31)) &&& 1 = 1 then 1 else 0
def hrd (ρ : Nat → Nat → Int32) (s : Nat) : Int32 := sumI (fun j => ρ (33 + 2 * s) j) 6
def toldF (ρ : Nat → Nat → Int32) (s w : Nat) (wd : Int32) : Int32 := if w = 0 then ρ (32 + 2 * s) 1 else if w = 1 then ρ (32 + 2 * s) 2 else if w = 2 then pmF (ρ (32 + 2 * s) 2) wd else if w = 3 then ρ (32 + 2 * s) 3 else hrd ρ s
/-- the sound of tune t by the pipes b, the pipe sp spared -/
def sndC (ρ : Nat → Nat → Int32) (b t : Nat) (sp : Int32) : Int32 := if ρ (14 + 3 * t) 2 = 0 then 0 else 60 - sumI (fun i => if nI i = sp then 0 else ρ (16 + 3 * t) i * hP ρ b i) 12 / ρ (14 + 3 * t) 2
def wdR (ρ : Nat → Nat → Int32) (b t i : Nat) : Nat → Nat → Int32 := fun k j => if j < i ∧ 0 < ρ (16 + 3 * t) j then (if k = b + 1 then mnI 30 (ρ k j + ρ (16 + 3 * t) j) else if k = b + 4 then 1 else ρ k j) else ρ k j
def fgR (ρ : Nat → Nat → Int32) (s i : Nat) : Nat → Nat → Int32 := fun k j => if k = 33 + 2 * s ∧ j < i then 0 else ρ k j
def payV (ρ : Nat → Nat → Int32) (s t : Nat) (snd : Int32) : Int32 := nI ((ρ (32 + 2 * s) 1 * snd / 60).toNatClampNeg / 2 ^ (ρ (33 + 2 * s) t).toNatClampNeg)
def payOK (ρ : Nat → Nat → Int32) (s t : Nat) (snd : Int32) : Prop := ∃ P h : Nat, ρ (32 + 2 * s) 1 * snd / 60 = nI P ∧ P < 2 ^ 20 ∧ ρ (33 + 2 * s) t = nI h ∧ h < 2 ^ 31
def pyN (ρ : Nat → Nat → Int32) (s t : Nat) : Int32 := payV ρ s t (sndC ρ 1 t (-1))
def wdF (ρ : Nat → Nat → Int32) : Int32 := nI ((ρ 0 7).toNatClampNeg % 7)
def nsR (ρ : Nat → Nat → Int32) (b d : Nat) : Nat → Nat → Nat → Int32
  | 0 => ρ
  | i + 1 => ntR (nsR ρ b d i) b (ρ 13 ((d + i) % 7)) 12
def csF (ρ : Nat → Nat → Int32) (b d : Nat) : Nat → Int32
  | 0 => 0
  | i + 1 => csF ρ b d i + sumI (cmB (nsR ρ b d i) b) 12
theorem nsR_out {ρ : Nat → Nat → Int32} {b d i k : Nat} (h : k < b + 2 ∨ b + 4 < k) : nsR ρ b d i k = ρ k := by
  induction i with
  | zero => rfl
  | succ i ih =>
    rw [← ih]
    funext j
    simp only [nsR, ntR]
    rw [if_neg (show ¬ k = b + 2 by omega), if_neg (show ¬ k = b + 3 by omega), if_neg (show ¬ k = b + 4 by omega)]
    exact ite_self _
def countF (ρ : Nat → Nat → Int32) (w : Nat) : Int32 := if w = 0 then ρ 0 7 else if w = 1 then wdF ρ else if w = 2 then ρ 0 8 else if w = 3 then ρ 0 5 else if w = 4 then ρ 0 6 else if w = 8 then ρ 0 9 else sumUpF ρ 1 w
def mixF (d : Int64) (x : Int32) : Int64 := d * 31 + x.toInt64
def mxs (f : Nat → Int32) : Nat → Int64 → Int64
  | 0, d => d
  | k + 1, d => mixF (mxs f k d) (f k)
def mtF (ρ : Nat → Nat → Int32) (t : Nat) (d : Int64) : Int64 := mixF (mxs (fun k => ρ (15 + 3 * t) k) (ρ (14 + 3 * t) 2).toNatClampNeg (mixF d (ρ (14 + 3 * t) 2))) (sndC ρ 1 t (-1))
def msF (ρ : Nat → Nat → Int32) (s : Nat) (d : Int64) : Int64 := mxs (fun t => pyN ρ s t) (ρ 0 5).toNatClampNeg (mxs (fun w => toldF ρ s w (wdF ρ)) 5 d)
theorem nI_le0 {b : Nat} (hb : b < 2 ^ 31) (h : nI b ≤ 0) : b = 0 := by
  rw [show (0 : Int32) = nI 0 from rfl, nI_leI hb (by omega)] at h
  omega
theorem halfN {P i : Nat} (h : P < 2 ^ 20) : nI (P / 2 ^ i) / 2 = nI (P / 2 ^ (i + 1)) := by
  have h1 : P / 2 ^ i ≤ P := Nat.div_le_self _ _
  rw [show nI (P / 2 ^ i) / 2 = nI (P / 2 ^ i / 2) from pk_div (d := 2) (by omega) (by omega) (by omega), Nat.div_div_eq_div_mul, Nat.pow_succ]
theorem xorN {a b : Nat} (ha : a < 2 ^ 31) (hb : b < 2 ^ 31) : 0 ≤ nI a ^^^ nI b := by
  have key : ∀ {x : Int32}, x.toBitVec.msb = false → 0 ≤ x := fun {x} hx => by
    rw [Int32.le_iff_toInt_le]
    show (0 : Int) ≤ x.toBitVec.toInt
    rw [BitVec.toInt_eq_msb_cond, hx]
    simp
  apply key
  have hm : ∀ n : Nat, n < 2 ^ 31 → (nI n).toBitVec.msb = false := fun n hn => by
    rw [BitVec.msb_eq_decide, pk_tn (by omega)]
    simp; omega
  rw [Int32.toBitVec_xor, BitVec.msb_xor, hm a ha, hm b hb]
  rfl
theorem nI_zero : (0 : Int32) = nI 0 := rfl
