/-! The Sim's cells: 0 the Sim; 1 worn, 2 off, 3 chirps, 4 sang, 5 tunes, 6 streets, 7 damp; from 8 on the streets, behind them the tunes -/
def cS (ad : Nat → Nat) (cy : Nat → ClassId) (S T : Nat) (Ln : Nat → Nat) (k : Nat) (r : Nat → Int32) : va_E :=
  if k = 0 then .inr (4, [.int (r 0), .int (r 1), .int (r 2), .ref (ad 1), .ref (ad 2), .ref (ad 3), .ref (ad 4), .ref (ad 5), .ref (ad 6), .ref (ad 7)])
  else if k = 1 ∨ k = 2 then .inl (cy 0, 12, .inl r)
  else if k = 3 ∨ k = 4 then .inl (cy 1, 12, .inl r)
  else if k = 5 then .inl (cy 4, T, .inr (.inr (.inr (.inr (fun i => some (ad (8 + S + i)))))))
  else if k = 6 then .inl (cy 4, S, .inr (.inr (.inr (.inr (fun i => some (ad (8 + i)))))))
  else if k = 7 then .inl (cy 0, 7, .inl r)
  else if k < 8 + S then .inl (cy 0, 9, .inl r)
  else .inl (cy 0, Ln (k - (8 + S)), .inl r)
/-- the Sim's rows, read off the class's -/
def sR (S : Nat) (ρ : gSt) : gSt := fun k j =>
  if k = 0 then (if j = 0 then ρ 0 7 else if j = 1 then ρ 0 8 else if j = 2 then ρ 0 9 else 0)
  else if k = 1 then ρ 2 j else if k = 2 then ρ 3 j else if k = 3 then ρ 4 j else if k = 4 then ρ 5 j
  else if k = 5 then 0 else if k = 6 then 0 else if k = 7 then ρ 13 j
  else if k < 8 + S then (if j = 0 then ρ (2 * k + 16) 1 else if j = 1 then ρ (2 * k + 16) 2 else if j = 2 then ρ (2 * k + 16) 3 else ρ (2 * k + 17) (j - 3))
  else if k < 14 + S then ρ (15 + 3 * (k - (8 + S))) j else 0
section LS
variable {ad : Nat → Nat} {cy : Nat → ClassId} {S T z t j : Nat} {Ln : Nat → Nat} {ρ : gSt} {v : Int32}
theorem lS_O : gOb (cS ad cy S T Ln) 0 4 := fun r => ⟨_, rfl⟩
theorem lS_day : gFI (cS ad cy S T Ln) 0 4 0 := fun r => ⟨_, rfl, rfl, Nat.le_of_ble_eq_true rfl, fun v => rfl⟩
theorem lS_coins : gFI (cS ad cy S T Ln) 0 4 1 := fun r => ⟨_, rfl, rfl, Nat.le_of_ble_eq_true rfl, fun v => rfl⟩
theorem lS_fines : gFI (cS ad cy S T Ln) 0 4 2 := fun r => ⟨_, rfl, rfl, Nat.le_of_ble_eq_true rfl, fun v => rfl⟩
theorem lS_worn : gFR (cS ad cy S T Ln) ad 0 4 3 1 := fun r => ⟨_, rfl, rfl⟩
theorem lS_off : gFR (cS ad cy S T Ln) ad 0 4 4 2 := fun r => ⟨_, rfl, rfl⟩
theorem lS_chirps : gFR (cS ad cy S T Ln) ad 0 4 5 3 := fun r => ⟨_, rfl, rfl⟩
theorem lS_sang : gFR (cS ad cy S T Ln) ad 0 4 6 4 := fun r => ⟨_, rfl, rfl⟩
theorem lS_tunes : gFR (cS ad cy S T Ln) ad 0 4 7 5 := fun r => ⟨_, rfl, rfl⟩
theorem lS_streets : gFR (cS ad cy S T Ln) ad 0 4 8 6 := fun r => ⟨_, rfl, rfl⟩
theorem lS_damp : gFR (cS ad cy S T Ln) ad 0 4 9 7 := fun r => ⟨_, rfl, rfl⟩
theorem lS_a1 : gAI (cS ad cy S T Ln) (cy 0) 1 12 := fun r => rfl
theorem lS_a2 : gAI (cS ad cy S T Ln) (cy 0) 2 12 := fun r => rfl
theorem lS_a3 : gAI (cS ad cy S T Ln) (cy 1) 3 12 := fun r => rfl
theorem lS_a4 : gAI (cS ad cy S T Ln) (cy 1) 4 12 := fun r => rfl
theorem lS_a7 : gAI (cS ad cy S T Ln) (cy 0) 7 7 := fun r => rfl
theorem lS_ts : gAR (cS ad cy S T Ln) ad (cy 4) 5 T (fun i => 8 + S + i) := fun r => ⟨_, rfl, fun i _ => rfl⟩
theorem lS_ss : gAR (cS ad cy S T Ln) ad (cy 4) 6 S (fun i => 8 + i) := fun r => ⟨_, rfl, fun i _ => rfl⟩
theorem lS_st (h : z < S) : gAI (cS ad cy S T Ln) (cy 0) (8 + z) 9 := fun r => by
  unfold cS
  rw [if_neg (by omega), if_neg (by omega), if_neg (by omega), if_neg (by omega), if_neg (by omega), if_neg (by omega), if_pos (by omega)]
theorem lS_tu : gAI (cS ad cy S T Ln) (cy 0) (8 + S + t) (Ln t) := fun r => by
  unfold cS
  rw [if_neg (by omega), if_neg (by omega), if_neg (by omega), if_neg (by omega), if_neg (by omega), if_neg (by omega), if_neg (by omega), show 8 + S + t - (8 + S) = t by omega]
theorem rS_day : sR S ρ 0 0 = ρ 0 7 := rfl
theorem rS_coins : sR S ρ 0 1 = ρ 0 8 := rfl
theorem rS_fines : sR S ρ 0 2 = ρ 0 9 := rfl
theorem rS_1 : sR S ρ 1 j = ρ 2 j := rfl
theorem rS_2 : sR S ρ 2 j = ρ 3 j := rfl
theorem rS_3 : sR S ρ 3 j = ρ 4 j := rfl
theorem rS_4 : sR S ρ 4 j = ρ 5 j := rfl
theorem rS_7 : sR S ρ 7 j = ρ 13 j := rfl
theorem rS_st (h : z < S) : sR S ρ (8 + z) j = if j = 0 then ρ (32 + 2 * z) 1 else if j = 1 then ρ (32 + 2 * z) 2 else if j = 2 then ρ (32 + 2 * z) 3 else ρ (33 + 2 * z) (j - 3) := by
  unfold sR
  rw [if_neg (by omega), if_neg (by omega), if_neg (by omega), if_neg (by omega), if_neg (by omega), if_neg (by omega), if_neg (by omega), if_neg (by omega), if_pos (by omega), show 2 * (8 + z) + 16 = 32 + 2 * z by omega, show 2 * (8 + z) + 17 = 33 + 2 * z by omega]
theorem rS_s0 (h : z < S) : sR S ρ (8 + z) 0 = ρ (32 + 2 * z) 1 := by rw [rS_st h, if_pos rfl]
theorem rS_s1 (h : z < S) : sR S ρ (8 + z) 1 = ρ (32 + 2 * z) 2 := by rw [rS_st h, if_neg (by omega), if_pos rfl]
theorem rS_s2 (h : z < S) : sR S ρ (8 + z) 2 = ρ (32 + 2 * z) 3 := by rw [rS_st h, if_neg (by omega), if_neg (by omega), if_pos rfl]
theorem rS_sh (h : z < S) : sR S ρ (8 + z) (3 + t) = ρ (33 + 2 * z) t := by rw [rS_st h, if_neg (by omega), if_neg (by omega), if_neg (by omega), show 3 + t - 3 = t by omega]
theorem rS_tu (h : t < 6) : sR S ρ (8 + S + t) j = ρ (15 + 3 * t) j := by
  unfold sR
  rw [if_neg (by omega), if_neg (by omega), if_neg (by omega), if_neg (by omega), if_neg (by omega), if_neg (by omega), if_neg (by omega), if_neg (by omega), if_neg (by omega), if_pos (by omega), show 8 + S + t - (8 + S) = t by omega]
theorem wS_day : up2 (sR S ρ) 0 0 v = sR S (up2 ρ 0 7 v) := by
  funext k j
  simp only [up2_e, sR]
  grind
theorem wS_coins : up2 (sR S ρ) 0 1 v = sR S (up2 ρ 0 8 v) := by
  funext k j
  simp only [up2_e, sR]
  grind
theorem wS_fines : up2 (sR S ρ) 0 2 v = sR S (up2 ρ 0 9 v) := by
  funext k j
  simp only [up2_e, sR]
  grind
theorem wS_1 : up2 (sR S ρ) 1 j v = sR S (up2 ρ 2 j v) := by
  funext a b
  simp only [up2_e, sR]
  grind
theorem wS_2 : up2 (sR S ρ) 2 j v = sR S (up2 ρ 3 j v) := by
  funext a b
  simp only [up2_e, sR]
  grind
theorem wS_3 : up2 (sR S ρ) 3 j v = sR S (up2 ρ 4 j v) := by
  funext a b
  simp only [up2_e, sR]
  grind
theorem wS_4 : up2 (sR S ρ) 4 j v = sR S (up2 ρ 5 j v) := by
  funext a b
  simp only [up2_e, sR]
  grind
theorem wS_7 : up2 (sR S ρ) 7 j v = sR S (up2 ρ 13 j v) := by
  funext a b
  simp only [up2_e, sR]
  grind
theorem wS_s1 (h : z < S) : up2 (sR S ρ) (8 + z) 1 v = sR S (up2 ρ (32 + 2 * z) 2 v) := by
  funext a b
  by_cases q : a = 8 + z
  · subst q
    rw [up2_e, rS_st h, rS_st h]
    simp only [up2_e]
    grind
  · rw [up2_k q]
    by_cases q2 : 8 ≤ a ∧ a < 8 + S
    · obtain ⟨y, rfl⟩ : ∃ y, a = 8 + y := ⟨a - 8, by omega⟩
      rw [rS_st (by omega), rS_st (by omega)]
      simp only [up2_e]
      grind
    · unfold sR
      simp only [up2_e]
      grind (splits := 30)
theorem wS_s2 (h : z < S) : up2 (sR S ρ) (8 + z) 2 v = sR S (up2 ρ (32 + 2 * z) 3 v) := by
  funext a b
  by_cases q : a = 8 + z
  · subst q
    rw [up2_e, rS_st h, rS_st h]
    simp only [up2_e]
    grind
  · rw [up2_k q]
    by_cases q2 : 8 ≤ a ∧ a < 8 + S
    · obtain ⟨y, rfl⟩ : ∃ y, a = 8 + y := ⟨a - 8, by omega⟩
      rw [rS_st (by omega), rS_st (by omega)]
      simp only [up2_e]
      grind
    · unfold sR
      simp only [up2_e]
      grind (splits := 30)
theorem wS_sh (h : z < S) : up2 (sR S ρ) (8 + z) (3 + t) v = sR S (up2 ρ (33 + 2 * z) t v) := by
  funext a b
  by_cases q : a = 8 + z
  · subst q
    rw [up2_e, rS_st h, rS_st h]
    simp only [up2_e]
    grind
  · rw [up2_k q]
    by_cases q2 : 8 ≤ a ∧ a < 8 + S
    · obtain ⟨y, rfl⟩ : ∃ y, a = 8 + y := ⟨a - 8, by omega⟩
      rw [rS_st (by omega), rS_st (by omega)]
      simp only [up2_e]
      grind
    · unfold sR
      simp only [up2_e]
      grind (splits := 30)
end LS
/-- the rows of sR alone count -/
theorem sR_cg {S : Nat} {ρ σ : gSt} (h0 : ∀ j, 7 ≤ j → ρ 0 j = σ 0 j) (h : ∀ k, (1 < k ∧ k ≤ 5) ∨ 13 ≤ k → ρ k = σ k) : sR S ρ = sR S σ := by
  funext k j
  simp only [sR]
  rw [h0 7 (by omega), h0 8 (by omega), h0 9 (by omega), h 2 (by omega), h 3 (by omega), h 4 (by omega), h 5 (by omega), h 13 (by omega)]
  by_cases q : k < 8
  · rcases (show k = 0 ∨ k = 1 ∨ k = 2 ∨ k = 3 ∨ k = 4 ∨ k = 5 ∨ k = 6 ∨ k = 7 by omega) with rfl | rfl | rfl | rfl | rfl | rfl | rfl | rfl <;> rfl
  · rw [h (2 * k + 16) (by omega), h (2 * k + 17) (by omega), h (15 + 3 * (k - (8 + S))) (by omega)]
/-! A front of cells, behind it a world -/
def jF {α : Type} (F : Nat) (f g : Nat → α) : Nat → α := fun k => if k < F then f k else g (k - F)
theorem jF_lo {α : Type} {F k : Nat} {f g : Nat → α} (h : k < F) : jF F f g k = f k := if_pos h
theorem jF_hi {α : Type} {F k : Nat} {f g : Nat → α} : jF F f g (F + k) = g k := by
  unfold jF
  rw [if_neg (by omega), show F + k - F = k by omega]
theorem gSub_fr {cz cz' : Nat → (Nat → Int32) → va_E} {ad ad' : Nat → Nat} {n n' off k ci j k2 : Nat} (hs : gSub n ad cz off n' ad' cz') (h : gFR cz' ad' k ci j k2) (hk : k < n') (hk2 : k2 < n') : gFR cz ad (off + k) ci j (off + k2) := fun r => by
  obtain ⟨fs, h1, h2⟩ := h r
  exact ⟨fs, by rw [← (hs.2 k hk).2 r]; exact h1, by rw [← (hs.2 k2 hk2).1]; exact h2⟩
theorem gSub_fi {cz cz' : Nat → (Nat → Int32) → va_E} {ad ad' : Nat → Nat} {n n' off k ci j : Nat} (hs : gSub n ad cz off n' ad' cz') (h : gFI cz' k ci j) (hk : k < n') : gFI cz (off + k) ci j := fun r => by
  obtain ⟨fs, h1, h2, h3, h4⟩ := h r
  exact ⟨fs, by rw [← (hs.2 k hk).2 r]; exact h1, h2, h3, fun v => by rw [← (hs.2 k hk).2]; exact h4 v⟩
theorem gSub_ob {cz cz' : Nat → (Nat → Int32) → va_E} {ad ad' : Nat → Nat} {n n' off k ci : Nat} (hs : gSub n ad cz off n' ad' cz') (h : gOb cz' k ci) (hk : k < n') : gOb cz (off + k) ci := fun r => by
  obtain ⟨fs, h1⟩ := h r
  exact ⟨fs, by rw [← (hs.2 k hk).2 r]; exact h1⟩
theorem gSub_ai {cz cz' : Nat → (Nat → Int32) → va_E} {ad ad' : Nat → Nat} {n n' off k len : Nat} {cA : ClassId} (hs : gSub n ad cz off n' ad' cz') (h : gAI cz' cA k len) (hk : k < n') : gAI cz cA (off + k) len := fun r => by rw [← (hs.2 k hk).2 r]; exact h r
theorem gSub_ar {cz cz' : Nat → (Nat → Int32) → va_E} {ad ad' : Nat → Nat} {n n' off k len : Nat} {cA : ClassId} {tgt : Nat → Nat} (hs : gSub n ad cz off n' ad' cz') (h : gAR cz' ad' cA k len tgt) (hk : k < n') (ht : ∀ i, i < len → tgt i < n') : gAR cz ad cA (off + k) len (fun i => off + tgt i) := fun r => by
  obtain ⟨f, h1, h2⟩ := h r
  exact ⟨f, by rw [← (hs.2 k hk).2 r]; exact h1, fun i hi => by rw [h2 i hi, (hs.2 _ (ht i hi)).1]⟩
theorem gSub_tr {cz cz' cz'' : Nat → (Nat → Int32) → va_E} {ad ad' ad'' : Nat → Nat} {n n' n'' off off' : Nat} (h : gSub n ad cz off n' ad' cz') (h' : gSub n' ad' cz' off' n'' ad'' cz'') : gSub n ad cz (off + off') n'' ad'' cz'' := ⟨by have := h.1; have := h'.1; omega, fun j hj => by
  obtain ⟨a1, a2⟩ := h'.2 j hj
  obtain ⟨b1, b2⟩ := h.2 (off' + j) (by have := h'.1; omega)
  rw [Nat.add_assoc]
  exact ⟨a1.trans b1, fun r => (a2 r).trans (b2 r)⟩⟩
/-- the class's cells and the Sim's -/
def aS (ad : Nat → Nat) : Nat → Nat := fun j => ad (48 + j)
def cW (ad : Nat → Nat) (cy : Nat → ClassId) (S T : Nat) (Ln : Nat → Nat) : Nat → (Nat → Int32) → va_E := jF 48 (cC ad cy) (cS (aS ad) cy S T Ln)
def wR (S : Nat) (ρa ρb : gSt) : gSt := jF 48 ρa (sR S ρb)
abbrev nW (F S T : Nat) : Nat := F + (48 + (8 + S + T))
section FW
variable {F S T : Nat} {Ln : Nat → Nat} {fa ad : Nat → Nat} {cy : Nat → ClassId} {fz : Nat → (Nat → Int32) → va_E} {ρa ρb : gSt}
theorem sub_F {n : Nat} {cz : Nat → (Nat → Int32) → va_E} : gSub (F + n) (jF F fa ad) (jF F fz cz) F n ad cz := ⟨Nat.le_refl _, fun j _ => ⟨jF_hi.symm, fun r => by rw [jF_hi]⟩⟩
theorem sub_C : gSub (48 + (8 + S + T)) ad (cW ad cy S T Ln) 0 48 ad (cC ad cy) := ⟨by omega, fun j hj => by
  rw [Nat.zero_add]
  exact ⟨rfl, fun r => by unfold cW; rw [jF_lo hj]⟩⟩
theorem sub_S : gSub (48 + (8 + S + T)) ad (cW ad cy S T Ln) 48 (8 + S + T) (aS ad) (cS (aS ad) cy S T Ln) := ⟨Nat.le_refl _, fun j _ => ⟨rfl, fun r => by unfold cW; rw [jF_hi]⟩⟩
theorem sub_FC : gSub (nW F S T) (jF F fa ad) (jF F fz (cW ad cy S T Ln)) F 48 ad (cC ad cy) := gSub_tr sub_F sub_C
theorem sub_FS : gSub (nW F S T) (jF F fa ad) (jF F fz (cW ad cy S T Ln)) (F + 48) (8 + S + T) (aS ad) (cS (aS ad) cy S T Ln) := gSub_tr sub_F sub_S
end FW
/-- an array's word that isn't kept of itself -/
def zAO (U : State) : Prop := (Cond.arrayOver (.array .int)).before #[] U = true
theorem zAO.moved {u U : State} (hvm : u.vm.Alike U.vm) (h : zAO u) : zAO U := by
  obtain ⟨comp, c, k, h1, h2, h3, h4, h5⟩ := arrayOverA_spec h
  obtain ⟨k', hk', he⟩ := hvm.2.2 _ _ h3
  have hbare : U.vm.bare = u.vm.bare := by first | exact hvm.bare_eq | exact hvm.bare_eq.symm
  have hi : (U.vm.classes.findIdx? fun (x : Class) => match x.kind with | .array component _ => component == comp | _ => false) = some c := (va_idx_bare U.vm comp).symm.trans (by rw [hbare]; exact (va_idx_bare u.vm comp).trans h2)
  have hkind : k'.kind = .array comp (.array .int) := by rw [he]; exact h4
  have f1 : U.vm.findClass (FieldType.array .int).toString = some comp := by rw [hvm.findClass]; exact h1
  have f2 : U.vm.findClass ("[" ++ (FieldType.array .int).toString) = some c := by rw [hvm.findClass]; exact h5
  unfold zAO Cond.before Cond.holds
  simp only [Cond.value]
  rw [f1, Option.bind_some]
  refine (congrArg (fun o : Option Nat => (o.bind (fun c => (U.vm.classes[c]?).map fun (k : Class) => match k.kind with | .array _ ty => decide (ty = FieldType.array .int) && decide (U.vm.findClass ("[" ++ (FieldType.array .int).toString) = some c) | _ => false) == some true)) hi).trans ?_
  simp [hk', hkind, f2]
/-! Contracts with the environment, of methods that don't throw where they are called -/
def gYI (l : Launch) (y : MethodName) (b : ByteArray) (nL : Nat) (ret : Option FieldType) (rm : Room) (D : va_G) (cy : Nat → ClassId) (n : Nat) (ad : Nat → Nat) (cz : Nat → (Nat → Int32) → va_E) (argv : List Value) (ρ : Nat → Nat → Int32) (post : Int32 → (Nat → Nat → Int32) → Prop) (mc ms : Nat) : Prop := ∀ sz : Nat, Met l y (Cond.code y b nL ret :: wAll) rm (gPx D cy n ad cz ρ argv sz) (va_Qi post (gB D n ad cz) (gA n ad sz)) mc ms (gA n ad sz)
section YI
variable {l : Launch} {y : MethodName} {b : ByteArray} {nL : Nat} {ret : Option FieldType} {rm : Room} {D : va_G} {cy : Nat → ClassId} {n : Nat} {ad : Nat → Nat} {cz : Nat → (Nat → Int32) → va_E} {argv : List Value} {ρ ρ2 : gSt} {v : Int32} {post post' : Int32 → gSt → Prop} {xp : String → Prop} {mc ms : Nat}
theorem gYI_X (h : gXI l y b nL ret rm D cy n ad cz argv ρ post xp mc ms) (hx : ∀ E, ¬ xp E) (hp : ∀ r ρ1, post r ρ1 → post' r ρ1) : gYI l y b nL ret rm D cy n ad cz argv ρ post' mc ms := fun sz => MetFree.mono (h sz) (fun _ _ q => q) (fun _ _ _ _ _ q => q) (fun a s o s' _ hq => by
  rcases hq with ⟨⟨⟨r, u, h1, h2, h3⟩, h4⟩, h5⟩ | ⟨q, -, E, ce, L, ⟨u, -, ⟨hE, -⟩, -⟩, -⟩
  · exact ⟨⟨⟨r, u, h1, hp r u h2, h3⟩, h4⟩, h5⟩
  · exact absurd hE (hx E))
theorem gYI_M (h : gMI l y b nL ret rm D cy n ad cz argv ρ post mc ms) (hp : ∀ r ρ1, post r ρ1 → post' r ρ1) : gYI l y b nL ret rm D cy n ad cz argv ρ post' mc ms := fun sz => MetFree.mono (h sz) (fun _ _ q => by
  obtain ⟨q0, q1, q2, q3, q4, q6, q5⟩ := q
  exact ⟨q0, q1, q2, q3, q4, q6⟩) (fun _ _ _ _ _ q => q) (fun a s o s' _ hq => by
  obtain ⟨⟨⟨r, u, h1, h2, h3⟩, h4⟩, h5⟩ := hq
  exact ⟨⟨⟨r, u, h1, hp r u h2, h3⟩, h4⟩, h5⟩)
theorem gYI_1 {e1 : String} {o : gOut} (h : gXI l y b nL ret rm D cy n ad cz argv ρ (fun r ρ1 => o = (0, r, ρ1)) (xq1 e1 o.1) mc ms) (ho : o = (0, v, ρ2)) : gYI l y b nL ret rm D cy n ad cz argv ρ (fun r ρ1 => r = v ∧ ρ1 = ρ2) mc ms := by
  subst ho
  exact gYI_X h (fun E q => absurd q.2 (show ¬ (0 : Nat) = 1 by decide)) (fun r ρ1 q => by cases q; exact ⟨rfl, rfl⟩)
theorem gYI_2 {e1 e2 : String} {o : gOut} (h : gXI l y b nL ret rm D cy n ad cz argv ρ (fun r ρ1 => o = (0, r, ρ1)) (xq2 e1 e2 o.1) mc ms) (ho : o = (0, v, ρ2)) : gYI l y b nL ret rm D cy n ad cz argv ρ (fun r ρ1 => r = v ∧ ρ1 = ρ2) mc ms := by
  subst ho
  exact gYI_X h (fun E q => q.elim (fun q => absurd q.2 (show ¬ (0 : Nat) = 1 by decide)) (fun q => absurd q.2 (show ¬ (0 : Nat) = 2 by decide))) (fun r ρ1 q => by cases q; exact ⟨rfl, rfl⟩)
end YI
section FG
variable {p : Program} {l : Launch} {e : Env} {R : Room} {s : State} {m : MethodId} {args : Array Value} {below : List Frame} {meth : Method} {c : Code} {Q : State → Prop}
variable {cc : ByteArray} {nL : Nat} {Ts : List Cond} {own : String} {D : va_G} {cy : Nat → ClassId} {A : Nat → Prop}
variable {n n' : Nat} {ad ad' : Nat → Nat} {cz cz' : Nat → (Nat → Int32) → va_E} {ρ ρ' : gSt} {cells slots pc : Nat} {ls ls' : List (Nat × Value)} {st st0 rest : List Value}
variable {y : MethodName} {rm : Room} {bytes : ByteArray} {maxL nA index mc ms : Nat} {ret : Option FieldType} {C : String} {Tf : u_T} {Nf ci : Nat} {As : List Value}
/-- the same cells in another order, or fewer of them -/
theorem g_ren (g : Nat → Nat) (hg : ∀ k, k < n' → g k < n ∧ ad' k = ad (g k) ∧ eSame (cz (g k) (ρ (g k))) (cz' k (ρ' k))) (hgi : ∀ i j, i < n' → j < n' → g i = g j → i = j) (kk : GW p l e R s m args below meth c Q nL D A n' ad' cz' ρ' cells slots pc ls st) : GW p l e R s m args below meth c Q nL D A n ad cz ρ cells slots pc ls st := fun H locs la hP hD hS hl => by
  refine kk H locs la (fun k q hq => ?_) (gD_of (fun i j h1 h2 h3 => ?_) (fun k hk => ?_)) hS hl
  · obtain ⟨hk, rfl⟩ := gWl_out hq
    obtain ⟨a1, a2, a3⟩ := hg k hk
    have := hP (g k) _ (gWl_get a1)
    rw [a2]
    exact a3.at this
  · rw [(hg i h1).2.1, (hg j h2).2.1] at h3
    exact hgi i j h1 h2 (gD_inj hD _ _ (hg i h1).1 (hg j h2).1 h3)
  · rw [(hg k hk).2.1]
    exact gD_in hD (hg k hk).1
/-- a world told outright -/
theorem g_toE (kk : GW p l e R s m args below meth c Q nL D A n ad (cE (fun k => cz k (ρ k))) z0 cells slots pc ls st) : GW p l e R s m args below meth c Q nL D A n ad cz ρ cells slots pc ls st := fun H locs la hP hD hS hl => kk H locs la hP hD hS hl
theorem g_y_at (X : gX p m c cc nL s args Ts own D cy A) (hE : gEnv s A) {post : Int32 → gSt → Prop} (k0 off : Nat) (σ : gSt) (hσ : ∀ j, j < n' → cz' j (ρ (off + j)) = cz' j (σ j)) (hM : gYI l y bytes maxL ret rm D cy n' ad' cz' (.ref (ad k0) :: As) σ post mc ms) (hL : gLkV own index C y bytes maxL ret nA) (hR : rm.cells = mc ∧ rm.slots = ms ∧ rm.frames + 1 ≤ R.frames ∧ 8 + (maxL + 11) + rm.locals ≤ R.locals) (hs : gSub n ad cz off n' ad' cz') (hk0 : k0 < n) (hO : gOb cz k0 ci) (hc : vwCl[ci]? = some (C, Tf, Nf)) (hn : As.length = nA) (hst : st0 = As.reverse ++ .ref (ad k0) :: rest) (hcat : (rest.map fun v => v.category).sum ≤ 8) (hd : decode cc pc = .ok (.invokevirtual index, 3)) (hroom : cells + mc ≤ R.cells ∧ slots + ms ≤ R.slots) (kk : ∀ r ρ1, post r ρ1 → GW p l e R s m args below meth c Q nL D A n ad cz (gBack ρ off n' ρ1) (cells + mc) (slots + ms) (pc + 3) ls (.int r :: rest)) : GW p l e R s m args below meth c Q nL D A n ad cz ρ cells slots pc ls st0 := by
  intro H locs la hP hD hS hl
  have hfree := gA_sub hs hD hS X.2.2.1
  obtain ⟨fs9, hfs9⟩ := hO (ρ k0)
  exact va_calli (va_runV X.1 (hM H.size) (gCwV X.1.2.2.2.2 X.2.2.2.1 hL hR) ⟨gPx_blind, va_recv X.2.1 hP hc ((gWl_get hk0).trans (by rw [hfs9])), fun U hU hW => ⟨rfl, by rw [hU], by rw [hU]; exact gP_congr hσ (gP_sub hs hP), va_K.moved hW.alike X.2.1, gInj_sub hs (gD_inj hD), gNst_warm hW X.2.2.2.2, gEnv_at hE hW hU hS hfree⟩⟩ rfl hn hl.1 hst (lv_room hcat) hd hroom) hS (fun q _ h => hfree q h) hfree (fun r ρ1 t H1 locs1 ht hvm hw hB hz1 hk1 hS1 => kk r ρ1 hw H1 locs1 la (gP_back hs (gD_inj hD) hP hk1 (ht ▸ hB)) (gD_of (gD_inj hD) (fun _ hk => gD_in hD hk)) hS1 hl)
variable {F S T : Nat} {Ln : Nat → Nat} {fa : Nat → Nat} {fz : Nat → (Nat → Int32) → va_E} {φ ρa ρb ρ2 : gSt} {v : Int32}
theorem jF_back {n0 : Nat} {σ : gSt} {k : Nat} (hk : k < F + n0) : gBack (jF F φ ρ) F n0 σ k = jF F φ σ k := by
  unfold gBack
  by_cases h : F ≤ k
  · rw [if_pos ⟨h, hk⟩]
    unfold jF
    rw [if_neg (by omega)]
  · rw [if_neg (by omega), jF_lo (by omega), jF_lo (by omega)]
/-- a call of the class, where its cells stand ahead of the Sim's, behind a front -/
theorem g_yc (X : gX p m c cc nL s args Ts own D cy A) (hE : gEnv s A) (hM : gYI l y bytes maxL ret rm D cy 48 ad (cC ad cy) (.ref (ad 0) :: As) ρa (fun r ρ1 => r = v ∧ ρ1 = ρ2) mc ms) (hL : gLkV own index "StreetOrgans" y bytes maxL ret nA) (hR : rm.cells = mc ∧ rm.slots = ms ∧ rm.frames + 1 ≤ R.frames ∧ 8 + (maxL + 11) + rm.locals ≤ R.locals) (hn : As.length = nA) (hst : st0 = As.reverse ++ .ref (ad 0) :: rest) (hcat : (rest.map fun v => v.category).sum ≤ 8) (hd : decode cc pc = .ok (.invokevirtual index, 3)) (hroom : cells + mc ≤ R.cells ∧ slots + ms ≤ R.slots) (kk : GW p l e R s m args below meth c Q nL D A (nW F S T) (jF F fa ad) (jF F fz (cW ad cy S T Ln)) (jF F φ (wR S ρ2 ρb)) (cells + mc) (slots + ms) (pc + 3) ls (.int v :: rest)) : GW p l e R s m args below meth c Q nL D A (nW F S T) (jF F fa ad) (jF F fz (cW ad cy S T Ln)) (jF F φ (wR S ρa ρb)) cells slots pc ls st0 := by
  have e0 : jF F fa ad (F + 0) = ad 0 := jF_hi
  refine g_y_at X hE (F + 0) F ρa (fun j hj => ?_) (by rw [e0]; exact hM) hL hR sub_FC (by show F + 0 < F + (48 + (8 + S + T)); omega) (ci := 3) (gSub_ob (ad := jF F fa ad) sub_FC lC_O (by omega)) rfl hn (by rw [e0]; exact hst) hcat hd hroom (fun r ρ1 h => ?_)
  · rw [jF_hi]
    unfold wR
    rw [jF_lo hj]
  · obtain ⟨rfl, rfl⟩ := h
    refine g_congr (fun k hk => ?_) kk
    refine congrArg (jF F fz (cW ad cy S T Ln) k) ?_
    have hk : k < F + (48 + (8 + S + T)) := hk
    by_cases h2 : k < F
    · simp only [gBack]
      rw [if_neg (show ¬ (F ≤ k ∧ k < F + 48) by omega), jF_lo h2, jF_lo h2]
    · obtain ⟨j, rfl⟩ : ∃ j, k = F + j := ⟨k - F, by omega⟩
      simp only [gBack]
      rw [jF_hi, jF_hi]
      unfold wR
      by_cases h1 : j < 48
      · rw [if_pos (show F ≤ F + j ∧ F + j < F + 48 by omega), jF_lo h1, show F + j - F = j by omega]
      · rw [if_neg (show ¬ (F ≤ F + j ∧ F + j < F + 48) by omega)]
        obtain ⟨i, rfl⟩ : ∃ i, j = 48 + i := ⟨j - 48, by omega⟩
        rw [jF_hi, jF_hi]
/-- a call of the Sim there -/
theorem g_sc (X : gX p m c cc nL s args Ts own D cy A) (hM : gMI l y bytes maxL ret rm D cy (8 + S + T) (aS ad) (cS (aS ad) cy S T Ln) (.ref (ad 48) :: As) (sR S ρb) (fun r ρ1 => r = v ∧ ρ1 = sR S ρ2) mc ms) (hL : gLkV own index "StreetOrgansLaw$Sim" y bytes maxL ret nA) (hR : rm.cells = mc ∧ rm.slots = ms ∧ rm.frames + 1 ≤ R.frames ∧ 8 + (maxL + 11) + rm.locals ≤ R.locals) (hn : As.length = nA) (hst : st0 = As.reverse ++ .ref (ad 48) :: rest) (hcat : (rest.map fun v => v.category).sum ≤ 8) (hd : decode cc pc = .ok (.invokevirtual index, 3)) (hroom : cells + mc ≤ R.cells ∧ slots + ms ≤ R.slots) (kk : GW p l e R s m args below meth c Q nL D A (nW F S T) (jF F fa ad) (jF F fz (cW ad cy S T Ln)) (jF F φ (wR S ρa ρ2)) (cells + mc) (slots + ms) (pc + 3) ls (.int v :: rest)) : GW p l e R s m args below meth c Q nL D A (nW F S T) (jF F fa ad) (jF F fz (cW ad cy S T Ln)) (jF F φ (wR S ρa ρb)) cells slots pc ls st0 := by
  have e0 : jF F fa ad (F + 48 + 0) = ad 48 := jF_hi
  have e1 : (fun j => jF F φ (wR S ρa ρb) (F + 48 + j)) = sR S ρb := by
    funext j
    rw [show F + 48 + j = F + (48 + j) by omega, jF_hi]
    unfold wR
    rw [jF_hi]
  refine g_mcallVi_at X (F + 48 + 0) (F + 48) (by rw [e0, e1]; exact hM) hL hR sub_FS (by show F + 48 + 0 < F + (48 + (8 + S + T)); omega) (ci := 4) (gSub_ob (ad := jF F fa ad) sub_FS lS_O (by omega)) rfl hn (by rw [e0]; exact hst) hcat hd hroom (fun r ρ1 h => ?_)
  obtain ⟨rfl, rfl⟩ := h
  refine g_congr (fun k hk => ?_) kk
  refine congrArg (jF F fz (cW ad cy S T Ln) k) ?_
  have hk : k < F + (48 + (8 + S + T)) := hk
  by_cases h2 : k < F
  · simp only [gBack]
    rw [if_neg (show ¬ (F + 48 ≤ k ∧ k < F + 48 + (8 + S + T)) by omega), jF_lo h2, jF_lo h2]
  · obtain ⟨j, rfl⟩ : ∃ j, k = F + j := ⟨k - F, by omega⟩
    simp only [gBack]
    rw [jF_hi, jF_hi]
    unfold wR
    by_cases h1 : j < 48
    · rw [if_neg (show ¬ (F + 48 ≤ F + j ∧ F + j < F + 48 + (8 + S + T)) by omega), jF_lo h1, jF_lo h1]
    · obtain ⟨i, rfl⟩ : ∃ i, j = 48 + i := ⟨j - 48, by omega⟩
      rw [if_pos (show F + 48 ≤ F + (48 + i) ∧ F + (48 + i) < F + 48 + (8 + S + T) by omega), jF_hi, show F + (48 + i) - (F + 48) = i by omega]
/-- a new row of ints in front -/
theorem g_push {n0 : Nat} {adw : Nat → Nat} {czw : Nat → (Nat → Int32) → va_E} {ρw : gSt} {lenq q : Nat} {cA : ClassId} (kk : GW p l e R s m args below meth c Q nL D A (F + 1 + n0) (jF (F + 1) (xAd fa F q) adw) (jF (F + 1) (xCz fz F cA lenq) czw) (jF (F + 1) (xRo φ F) ρw) cells slots pc ls st) : GW p l e R s m args below meth c Q nL D A (F + n0 + 1) (xAd (jF F fa adw) (F + n0) q) (xCz (jF F fz czw) (F + n0) cA lenq) (xRo (jF F φ ρw) (F + n0)) cells slots pc ls st := by
  refine g_ren (fun k => if k < F then k else if k = F then F + n0 else k - 1) (fun k hk => ?_) (fun i j hi hj h => ?_) kk
  · by_cases h1 : k < F
    · refine ⟨?_, ?_, Or.inl ?_⟩
      · rw [if_pos h1]; omega
      · simp only [jF, xAd, if_pos h1, if_neg (show ¬ k = F + n0 by omega), if_neg (show ¬ k = F by omega), if_pos (show k < F + 1 by omega)]
      · simp only [jF, xCz, xRo, if_pos h1, if_neg (show ¬ k = F + n0 by omega), if_neg (show ¬ k = F by omega), if_pos (show k < F + 1 by omega)]
    · by_cases h2 : k = F
      · refine ⟨?_, ?_, Or.inl ?_⟩
        · rw [if_neg h1, if_pos h2]; omega
        · simp [jF, xAd, h2]
        · simp [jF, xCz, xRo, h2]
      · refine ⟨?_, ?_, Or.inl ?_⟩
        · rw [if_neg h1, if_neg h2]; omega
        · simp only [jF, xAd, if_neg h1, if_neg h2, if_neg (show ¬ k - 1 = F + n0 by omega), if_neg (show ¬ k - 1 < F by omega), if_neg (show ¬ k < F + 1 by omega), show k - 1 - F = k - (F + 1) by omega]
        · simp only [jF, xCz, xRo, if_neg h1, if_neg h2, if_neg (show ¬ k - 1 = F + n0 by omega), if_neg (show ¬ k - 1 < F by omega), if_neg (show ¬ k < F + 1 by omega), show k - 1 - F = k - (F + 1) by omega]
  · split at h <;> split at h <;> (try split at h) <;> (try split at h) <;> omega
theorem g_pushi (X : gX p m c cc nL s args Ts own D cy A) (F1 : Nat) (hF1 : F + 1 = F1) {n0 : Nat} {adw : Nat → Nat} {czw : Nat → (Nat → Int32) → va_E} {ρw : gSt} (len : Nat) (hlen : len < 2 ^ 20) (hw : Cond.arrayClass .int ∈ wAll) (hroom : cells + 1 ≤ R.cells ∧ slots + len ≤ R.slots) (hd : decode cc pc = .ok (.newarray .int, 2)) (kk : ∀ q, GW p l e R s m args below meth c Q nL D A (F1 + n0) (jF F1 (xAd fa F q) adw) (jF F1 (xCz fz F (cy 0) len) czw) (jF F1 (xRo φ F) ρw) (cells + 1) (slots + len) (pc + 2) ls (.ref q :: st)) : GW p l e R s m args below meth c Q nL D A (F + n0) (jF F fa adw) (jF F fz czw) (jF F φ ρw) cells slots pc ls (.int (nI len) :: st) := by
  subst hF1
  exact g_newi X len hlen hw hroom hd (fun q => g_push (by
  have : xAd (jF F fa adw) (F + n0) q (F + n0) = q := by simp [xAd]
  rw [this]
  exact kk q))
theorem g_pushz (X : gX p m c cc nL s args Ts own D cy A) (F1 : Nat) (hF1 : F + 1 = F1) {n0 : Nat} {adw : Nat → Nat} {czw : Nat → (Nat → Int32) → va_E} {ρw : gSt} (len : Nat) (hlen : len < 2 ^ 20) (hw : Cond.arrayClass .boolean ∈ wAll) (hroom : cells + 1 ≤ R.cells ∧ slots + len ≤ R.slots) (hd : decode cc pc = .ok (.newarray .boolean, 2)) (kk : ∀ q, GW p l e R s m args below meth c Q nL D A (F1 + n0) (jF F1 (xAd fa F q) adw) (jF F1 (xCz fz F (cy 1) len) czw) (jF F1 (xRo φ F) ρw) (cells + 1) (slots + len) (pc + 2) ls (.ref q :: st)) : GW p l e R s m args below meth c Q nL D A (F + n0) (jF F fa adw) (jF F fz czw) (jF F φ ρw) cells slots pc ls (.int (nI len) :: st) := by
  subst hF1
  exact g_newz X len hlen hw hroom hd (fun q => g_push (by
  have : xAd (jF F fa adw) (F + n0) q (F + n0) = q := by simp [xAd]
  rw [this]
  exact kk q))
/-- without the front -/
theorem g_popF {n0 : Nat} {adw : Nat → Nat} {czw : Nat → (Nat → Int32) → va_E} {ρw : gSt} (kk : GW p l e R s m args below meth c Q nL D A (0 + n0) (jF 0 fa adw) (jF 0 fz czw) (jF 0 φ ρw) cells slots pc ls st) : GW p l e R s m args below meth c Q nL D A (F + n0) (jF F fa adw) (jF F fz czw) (jF F φ ρw) cells slots pc ls st := g_ren (fun k => F + k) (fun k hk => by
  refine ⟨by omega, ?_, ?_⟩
  · rw [jF_hi]; rfl
  · rw [jF_hi, jF_hi]; exact Or.inl rfl) (fun i j _ _ h => by omega) kk
theorem g_F0 {n0 : Nat} {adw : Nat → Nat} {czw : Nat → (Nat → Int32) → va_E} {ρw : gSt} (kk : GW p l e R s m args below meth c Q nL D A (0 + n0) (jF 0 fa adw) (jF 0 fz czw) (jF 0 φ ρw) cells slots pc ls st) : GW p l e R s m args below meth c Q nL D A n0 adw czw ρw cells slots pc ls st := g_ren (fun k => k) (fun k hk => ⟨by omega, rfl, Or.inl rfl⟩) (fun i j _ _ h => h) kk
theorem g_0F {n0 : Nat} {adw : Nat → Nat} {czw : Nat → (Nat → Int32) → va_E} {ρw : gSt} (kk : GW p l e R s m args below meth c Q nL D A n0 adw czw ρw cells slots pc ls st) : GW p l e R s m args below meth c Q nL D A (0 + n0) (jF 0 fa adw) (jF 0 fz czw) (jF 0 φ ρw) cells slots pc ls st := g_ren (fun k => k) (fun k hk => ⟨by omega, rfl, Or.inl rfl⟩) (fun i j _ _ h => h) kk
/-- rows of rows of ints -/
theorem g_aaldA (X : gX p m c cc nL s args Ts own D cy A) (k i : Nat) {len : Nat} {tgt : Nat → Nat} (hk : k < n) {cA : ClassId} (hF : gAR cz ad cA k len tgt) (ht : (gT cy)[4]? = some (cA, .array .int)) (hin : i < len) (h31 : len < 2 ^ 31) (hd : decode cc pc = .ok (.aaload, 1)) (kk : GW p l e R s m args below meth c Q nL D A n ad cz ρ cells slots (pc + 1) ls (.ref (ad (tgt i)) :: st)) : GW p l e R s m args below meth c Q nL D A n ad cz ρ cells slots pc ls (.int (nI i) :: .ref (ad k) :: st) := fun H locs la hP hD hS hl => by
  obtain ⟨f, h1, h2⟩ := hF (ρ k)
  have hlt : (nI i).toNatClampNeg < len := by rw [nI_clamp (by omega)]; exact hin
  have e2 : f i = some (ad (tgt i)) := h2 i hin
  have hcl : H[ad k]? = some (vp_cell cA (len, .inr (.inr (.inr (.inr f))))) := hP k (ad k, .inl (cA, len, .inr (.inr (.inr (.inr f))))) ((gWl_get hk).trans (by rw [h1]))
  refine W.aald (v := va_rf (f (nI i).toNatClampNeg)) (ty := .array .int) X.1.1 X.1.2.1 hcl ((X.2.1.2 4 _ ht).1 len (fun j => va_rf (f j))) rfl (fun q => by cases q) (by show ¬ (nI i < 0 ∨ (arrV _ _ _).slots.size ≤ _); rw [arrV_size]; exact vp_in_nI hin h31) (by show (arrV _ _ _).slots[_]? = _; rw [arrV_read _ _ hlt]) rfl rfl hd ?_
  rw [nI_clamp (by omega), e2]
  exact kk H locs la hP hD hS hl
theorem g_ishl (X : gX p m c cc nL s args Ts own D cy A) {x y : Int32} (hd : decode cc pc = .ok (.ishl, 1)) (kk : GW p l e R s m args below meth c Q nL D A n ad cz ρ cells slots (pc + 1) ls (.int (x <<< (y &&& 31)) :: st)) : GW p l e R s m args below meth c Q nL D A n ad cz ρ cells slots pc ls (.int y :: .int x :: st) := fun H locs la hP hD hS hl => lv_ishl X.1.1 X.1.2.1 hd (kk H locs la hP hD hS hl)
theorem g_ior (X : gX p m c cc nL s args Ts own D cy A) {x y : Int32} (hd : decode cc pc = .ok (.ior, 1)) (kk : GW p l e R s m args below meth c Q nL D A n ad cz ρ cells slots (pc + 1) ls (.int (x ||| y) :: st)) : GW p l e R s m args below meth c Q nL D A n ad cz ρ cells slots pc ls (.int y :: .int x :: st) := fun H locs la hP hD hS hl => lv_ior X.1.1 X.1.2.1 hd (kk H locs la hP hD hS hl)
theorem g_ldc (X : gX p m c cc nL s args Ts own D cy A) {index : Nat} {v : Int32} (hw : Cond.constant own index v ∈ wAll) (hd : decode cc pc = .ok (.ldc index, 2)) (kk : GW p l e R s m args below meth c Q nL D A n ad cz ρ cells slots (pc + 2) ls (.int v :: st)) : GW p l e R s m args below meth c Q nL D A n ad cz ρ cells slots pc ls st := fun H locs la hP hD hS hl => lv_ldc X.1.1 X.1.2.1 X.1.2.2.2.1 (X.1.2.2.2.2 _ (X.2.2.2.1 _ hw)) hd (kk H locs la hP hD hS hl)
theorem jF_48 {α : Type} {F k : Nat} {f g : Nat → α} : jF F f g (F + 48 + k) = g (48 + k) := by rw [show F + 48 + k = F + (48 + k) by omega, jF_hi]
theorem g_ialdS (X : gX p m c cc nL s args Ts own D cy A) (k i : Nat) {len : Nat} (hF : gAI (cS (aS ad) cy S T Ln) (cy 0) k len) (hk : k < 8 + S + T) (hin : i < len) (h31 : len < 2 ^ 31) (hd : decode cc pc = .ok (.iaload, 1)) (kk : GW p l e R s m args below meth c Q nL D A (nW F S T) (jF F fa ad) (jF F fz (cW ad cy S T Ln)) ρ cells slots (pc + 1) ls (.int (ρ (F + 48 + k) i) :: st)) : GW p l e R s m args below meth c Q nL D A (nW F S T) (jF F fa ad) (jF F fz (cW ad cy S T Ln)) ρ cells slots pc ls (.int (nI i) :: .ref (ad (48 + k)) :: st) := by
  have h := g_ialdN X (F + 48 + k) i (by show F + 48 + k < F + (48 + (8 + S + T)); omega) (gSub_ai (off := F + 48) (sub_FS (fa := fa) (ad := ad)) hF hk) hin h31 hd kk
  rw [jF_48] at h
  exact h
theorem g_iastS (X : gX p m c cc nL s args Ts own D cy A) (k i : Nat) {len : Nat} {x : Int32} (hF : gAI (cS (aS ad) cy S T Ln) (cy 0) k len) (hk : k < 8 + S + T) (hin : i < len) (h31 : len < 2 ^ 31) (hd : decode cc pc = .ok (.iastore, 1)) (kk : ∀ ρ1, ρ1 = up2 ρ (F + 48 + k) i x → GW p l e R s m args below meth c Q nL D A (nW F S T) (jF F fa ad) (jF F fz (cW ad cy S T Ln)) ρ1 cells slots (pc + 1) ls st) : GW p l e R s m args below meth c Q nL D A (nW F S T) (jF F fa ad) (jF F fz (cW ad cy S T Ln)) ρ cells slots pc ls (.int x :: .int (nI i) :: .ref (ad (48 + k)) :: st) := by
  have h := g_iastN X (F + 48 + k) i (by show F + 48 + k < F + (48 + (8 + S + T)); omega) (gSub_ai (off := F + 48) (sub_FS (fa := fa) (ad := ad)) hF hk) hin h31 hd kk
  rw [jF_48] at h
  exact h
theorem g_alenS (X : gX p m c cc nL s args Ts own D cy A) (k : Nat) {len : Nat} (hF : gAI (cS (aS ad) cy S T Ln) (cy 0) k len) (hk : k < 8 + S + T) (hd : decode cc pc = .ok (.arraylength, 1)) (kk : GW p l e R s m args below meth c Q nL D A (nW F S T) (jF F fa ad) (jF F fz (cW ad cy S T Ln)) ρ cells slots (pc + 1) ls (.int (nI len) :: st)) : GW p l e R s m args below meth c Q nL D A (nW F S T) (jF F fa ad) (jF F fz (cW ad cy S T Ln)) ρ cells slots pc ls (.ref (ad (48 + k)) :: st) := by
  have h := g_alen (t0 := 0) X (F + 48 + k) (by show F + 48 + k < F + (48 + (8 + S + T)); omega) (gAI.ln (gSub_ai (off := F + 48) (sub_FS (fa := fa) (ad := ad)) hF hk)) rfl hd kk
  rw [jF_48] at h
  exact h
/-- the ways through a conditional expression come together -/
theorem g_join (tgt : Nat) (v : Int32) (k2 : (∀ x : Int32, x = v → GW p l e R s m args below meth c Q nL D A n ad cz ρ cells slots tgt ls (.int x :: st)) → GW p l e R s m args below meth c Q nL D A n ad cz ρ cells slots pc ls st) (kk : GW p l e R s m args below meth c Q nL D A n ad cz ρ cells slots tgt ls (.int v :: st)) : GW p l e R s m args below meth c Q nL D A n ad cz ρ cells slots pc ls st := k2 (fun x hx => by rw [hx]; exact kk)
end FG
theorem wX {ρ1 ρ : gSt} {S k j c j' : Nat} {v : Int32} (e : ρ1 = up2 (sR S ρ) k j v) (h : up2 (sR S ρ) k j v = sR S (up2 ρ c j' v)) : ∃ σ1, σ1 = up2 ρ c j' v ∧ ρ1 = sR S σ1 := ⟨_, rfl, e.trans h⟩
theorem rF {F S k j : Nat} {φ ρa ρb : gSt} : jF F φ (wR S ρa ρb) (F + 48 + k) j = sR S ρb k j := by
  rw [show F + 48 + k = F + (48 + k) by omega, jF_hi]
  unfold wR
  rw [jF_hi]
theorem up2_hi {F k j : Nat} {φ ρ : gSt} {v : Int32} : up2 (jF F φ ρ) (F + k) j v = jF F φ (up2 ρ k j v) := by
  funext a b
  rw [up2_e]
  by_cases h : a < F
  · rw [if_neg (by omega), jF_lo h, jF_lo h]
  · obtain ⟨i, rfl⟩ : ∃ i, a = F + i := ⟨a - F, by omega⟩
    rw [jF_hi, jF_hi, up2_e]
    by_cases q : i = k ∧ b = j
    · rw [if_pos q, if_pos (by omega)]
    · rw [if_neg q, if_neg (by omega)]
theorem up2_lo {F k j : Nat} {φ ρ : gSt} {v : Int32} (h : k < F) : up2 (jF F φ ρ) k j v = jF F (up2 φ k j v) ρ := by
  funext a b
  rw [up2_e]
  by_cases q : a < F
  · rw [jF_lo q, jF_lo q, up2_e]
  · rw [if_neg (by omega)]
    unfold jF
    rw [if_neg q, if_neg q]
theorem wXF {ρ1 φ ρa ρ : gSt} {F S k j c j' : Nat} {v : Int32} (e : ρ1 = up2 (jF F φ (wR S ρa ρ)) (F + 48 + k) j v) (h : up2 (sR S ρ) k j v = sR S (up2 ρ c j' v)) : ∃ σ1, σ1 = up2 ρ c j' v ∧ ρ1 = jF F φ (wR S ρa σ1) := ⟨_, rfl, by
  rw [e, show F + 48 + k = F + (48 + k) by omega, up2_hi]
  unfold wR
  rw [up2_hi, h]⟩
theorem wFl {ρ1 φ ρ : gSt} {F k j : Nat} {v : Int32} (e : ρ1 = up2 (jF F φ ρ) k j v) (h : k < F) : ∃ φ1, φ1 = up2 φ k j v ∧ ρ1 = jF F φ1 ρ := ⟨_, rfl, e.trans (up2_lo h)⟩
theorem jF_ai {F k len : Nat} {fz cz : Nat → (Nat → Int32) → va_E} {cA : ClassId} (h : gAI fz cA k len) (hk : k < F) : gAI (jF F fz cz) cA k len := fun r => by rw [jF_lo hk]; exact h r
