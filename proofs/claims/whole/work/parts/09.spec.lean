/-! What the methods answer, in plain words over the class's cells -/
def mnI (x y : Int32) : Int32 := if y < x then y else x
def mxI (x y : Int32) : Int32 := if x < y then y else x
def ab (o : Int32) : Int32 := if 0 ≤ o then o else 0 - o
def hm (w o c : Int32) : Int32 := if c = 0 then mnI 60 (ab o + 2 * w) else 60
def hP (ρ : Nat → Nat → Int32) (b i : Nat) : Int32 := hm (ρ (b + 1) i) (ρ (b + 2) i) (ρ (b + 3) i)
def sumI (f : Nat → Int32) : Nat → Int32
  | 0 => 0
  | k + 1 => sumI f k + f k
theorem sumI_s {f : Nat → Int32} {k : Nat} : sumI f (k + 1) = sumI f k + f k := rfl
theorem sumI_congr {f g : Nat → Int32} {k : Nat} (h : ∀ j, j < k → f j = g j) : sumI f k = sumI g k := by
  induction k with
  | zero => rfl
  | succ k ih => rw [sumI_s, sumI_s, ih (fun j hj => h j (by omega)), h k (by omega)]
def hd (y : Int32) : Int32 := mxI (-60) (mnI 60 y)
def b01 (x : Int32) : Int32 := if x = 0 then 0 else 1
def crc (ρ : Nat → Nat → Int32) (b : Nat) : Int32 := sumI (fun j => b01 (ρ (b + 3) j)) 12
def wrn (ρ : Nat → Nat → Int32) (b : Nat) : Int32 := sumI (fun j => ρ (b + 1) j) 12
def ofn (ρ : Nat → Nat → Int32) (b : Nat) : Int32 := sumI (fun j => ab (ρ (b + 2) j)) 12
def sumUpF (ρ : Nat → Nat → Int32) (b w : Nat) : Int32 := if w = 5 then crc ρ b else if w = 6 then wrn ρ b else ofn ρ b
def tellF (ρ : Nat → Nat → Int32) (b i w : Nat) : Int32 := if w = 0 then ρ (b + 1) i else if w = 1 then ρ (b + 2) i else if w = 2 then b01 (ρ (b + 3) i) else if w = 3 then hP ρ b i else b01 (ρ (b + 4) i)
/-- the first i pipes of the trial are as the organ's -/
def becR (ρ : Nat → Nat → Int32) (i : Nat) : Nat → Nat → Int32 := fun k j => if (k = 7 ∨ k = 8 ∨ k = 9 ∨ k = 10) ∧ j < i then ρ (k - 5) j else ρ k j
def clrR (ρ : Nat → Nat → Int32) (b i : Nat) : Nat → Nat → Int32 := fun k j => if k = b + 3 ∧ j < i then 0 else ρ k j
def cmB (ρ : Nat → Nat → Int32) (b j : Nat) : Int32 := if ρ (b + 1) j < 10 then 0 else if ρ (b + 4) j = 0 then (if ρ (b + 3) j = 0 then 1 else 0) else 0
def par (d : Int32) (j : Nat) : Int32 := if nI (j % 2) = 0 then d else -d
/-- a night, with damp d, over the first i pipes -/
def ntR (ρ : Nat → Nat → Int32) (b : Nat) (d : Int32) (i : Nat) : Nat → Nat → Int32 := fun k j =>
  if j < i then (if k = b + 2 then hd (ρ k j + par d j) else if k = b + 3 then (if cmB ρ b j = 1 then 1 else ρ k j) else if k = b + 4 then 0 else ρ k j) else ρ k j
theorem remN {a : Nat} (h : a < 2 ^ 31) : nI a - nI a / 2 * 2 = nI (a % 2) := pk_rem (d := 2) h (by omega) (by omega)
theorem remN7 {a : Nat} (h : a < 2 ^ 31) : nI a - nI a / 7 * 7 = nI (a % 7) := pk_rem (d := 7) h (by omega) (by omega)
theorem nI_zero : (0 : Int32) = nI 0 := rfl
