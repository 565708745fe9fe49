/-! Worlds with one more row at their end -/
def xAd (ad : Nat → Nat) (n q : Nat) : Nat → Nat := fun k => if k = n then q else ad k
def xCz (cz : Nat → (Nat → Int32) → va_E) (n : Nat) (cA : ClassId) (len : Nat) : Nat → (Nat → Int32) → va_E := fun k r => if k = n then .inl (cA, len, .inl r) else cz k r
def xRo (ρ : gSt) (n : Nat) : gSt := fun k => if k = n then (fun _ => 0) else ρ k
section XW
variable {p : Program} {l : Launch} {e : Env} {R : Room} {s : State} {m : MethodId} {args : Array Value} {below : List Frame} {meth : Method} {c : Code} {Q : State → Prop}
variable {cc : ByteArray} {nL : Nat} {Ts : List Cond} {own : String} {D : va_G} {cy : Nat → ClassId} {A : Nat → Prop}
variable {n : Nat} {ad : Nat → Nat} {cz : Nat → (Nat → Int32) → va_E} {ρ : gSt} {cells slots pc : Nat} {ls ls' : List (Nat × Value)} {st st0 rest : List Value}
variable {k ci j k2 len lenx q : Nat} {cA cB : ClassId}
theorem gFI_x (h : gFI cz k ci j) (hk : k ≠ n) : gFI (xCz cz n cA lenx) k ci j := fun r => by
  obtain ⟨fs, h1, h2, h3, h4⟩ := h r
  refine ⟨fs, by simp only [xCz]; rw [if_neg hk]; exact h1, h2, h3, fun v => by simp only [xCz]; rw [if_neg hk]; exact h4 v⟩
theorem gFR_x (h : gFR cz ad k ci j k2) (hk : k ≠ n) (hk2 : k2 ≠ n) : gFR (xCz cz n cA lenx) (xAd ad n q) k ci j k2 := fun r => by
  obtain ⟨fs, h1, h2⟩ := h r
  exact ⟨fs, by simp only [xCz]; rw [if_neg hk]; exact h1, by simp only [xAd]; rw [if_neg hk2]; exact h2⟩
theorem gOb_x (h : gOb cz k ci) (hk : k ≠ n) : gOb (xCz cz n cA lenx) k ci := fun r => by
  obtain ⟨fs, h1⟩ := h r
  exact ⟨fs, by simp only [xCz]; rw [if_neg hk]; exact h1⟩
theorem gAI_x (h : gAI cz cB k len) (hk : k ≠ n) : gAI (xCz cz n cA lenx) cB k len := fun r => by simp only [xCz]; rw [if_neg hk]; exact h r
theorem gAI_n : gAI (xCz cz n cA lenx) cA n lenx := fun r => by simp [xCz]
theorem gSub_x : gSub (n + 1) (xAd ad n q) (xCz cz n cA lenx) 0 n ad cz := ⟨by omega, fun j hj => by
  rw [Nat.zero_add]
  exact ⟨by simp only [xAd]; rw [if_neg (by omega)], fun r => by simp only [xCz]; rw [if_neg (by omega)]⟩⟩
theorem gWl_x : gWl (n + 1) (xAd ad n q) (xCz cz n cA lenx) (xRo ρ n) = gWl n ad cz ρ ++ [(q, .inl (cA, lenx, .inl (fun _ => 0)))] := by
  simp only [gWl, List.range_succ, List.map_append, List.map_cons, List.map_nil]
  congr 1
  · apply List.map_congr_left
    intro k hk
    have : k ≠ n := by have := List.mem_range.mp hk; omega
    simp only [xAd, xCz, xRo]
    rw [if_neg this, if_neg this, if_neg this]
  · simp [xAd, xCz, xRo]
theorem g_newi (X : gX p m c cc nL s args Ts own D cy A) (len : Nat) (hlen : len < 2 ^ 20) (hw : Cond.arrayClass .int ∈ wAll) (hroom : cells + 1 ≤ R.cells ∧ slots + len ≤ R.slots) (hd : decode cc pc = .ok (.newarray .int, 2)) (kk : ∀ q, GW p l e R s m args below meth c Q nL D A (n + 1) (xAd ad n q) (xCz cz n (cy 0) len) (xRo ρ n) (cells + 1) (slots + len) (pc + 2) ls (.ref (xAd ad n q n) :: st)) : GW p l e R s m args below meth c Q nL D A n ad cz ρ cells slots pc ls (.int (nI len) :: st) := fun H locs la hP hD hS hl => by
  refine va_newa (atype := .int) (a0 := (len, .inl (fun _ => 0))) X.1.1 X.1.2.1 (X.1.2.2.2.2 _ (X.2.2.2.1 _ hw)) rfl X.2.1 hP hD hS X.2.2.1 (fun _ => rfl) (fun h => nI_pos (show len < 2 ^ 31 by omega) h) (nI_clamp (by omega)) (by show len * 4 ≤ _; omega) hroom.1 hroom.2 hd (fun q cA H1 hK1 hP1 hD1 hS1 => ?_)
  have e0 : cA = cy 0 := by
    have h1 := (hK1.2 5 (cA, .int) rfl).2
    have h2 := (X.2.1.2 0 (cy 0, .int) rfl).2
    exact Option.some.inj (h1.symm.trans h2)
  subst e0
  rw [← gWl_x] at hP1 hD1
  have e9 : xAd ad n q n = q := by simp [xAd]
  have := kk q H1 locs la hP1 hD1 hS1 hl
  rw [e9] at this
  exact this
theorem g_newz (X : gX p m c cc nL s args Ts own D cy A) (len : Nat) (hlen : len < 2 ^ 20) (hw : Cond.arrayClass .boolean ∈ wAll) (hroom : cells + 1 ≤ R.cells ∧ slots + len ≤ R.slots) (hd : decode cc pc = .ok (.newarray .boolean, 2)) (kk : ∀ q, GW p l e R s m args below meth c Q nL D A (n + 1) (xAd ad n q) (xCz cz n (cy 1) len) (xRo ρ n) (cells + 1) (slots + len) (pc + 2) ls (.ref (xAd ad n q n) :: st)) : GW p l e R s m args below meth c Q nL D A n ad cz ρ cells slots pc ls (.int (nI len) :: st) := fun H locs la hP hD hS hl => by
  refine va_newa (atype := .boolean) (a0 := (len, .inl (fun _ => 0))) X.1.1 X.1.2.1 (X.1.2.2.2.2 _ (X.2.2.2.1 _ hw)) rfl X.2.1 hP hD hS X.2.2.1 (fun _ => rfl) (fun h => nI_pos (show len < 2 ^ 31 by omega) h) (nI_clamp (by omega)) (by show len * 1 ≤ _; omega) hroom.1 hroom.2 hd (fun q cA H1 hK1 hP1 hD1 hS1 => ?_)
  have e0 : cA = cy 1 := by
    have h1 := (hK1.2 5 (cA, .boolean) rfl).2
    have h2 := (X.2.1.2 1 (cy 1, .boolean) rfl).2
    exact Option.some.inj (h1.symm.trans h2)
  subst e0
  rw [← gWl_x] at hP1 hD1
  have e9 : xAd ad n q n = q := by simp [xAd]
  have := kk q H1 locs la hP1 hD1 hS1 hl
  rw [e9] at this
  exact this
variable {y : MethodName} {rm : Room} {bytes : ByteArray} {maxL nA index mc ms : Nat} {ret : Option FieldType} {C : String} {T : u_T} {N : Nat} {As : List Value}
variable {n' : Nat} {ad' : Nat → Nat} {cz' : Nat → (Nat → Int32) → va_E}
/-- a call that changes nothing, on some of the cells -/
theorem g_pureVi (X : gX p m c cc nL s args Ts own D cy A) {post : Int32 → gSt → Prop} (σ : gSt) (hσ : ∀ j, j < n' → cz' j (ρ (0 + j)) = cz' j (σ j)) (k0 : Nat) (hM : gMI l y bytes maxL ret rm D cy n' ad' cz' (.ref (ad k0) :: As) σ post mc ms) (hL : gLkV own index C y bytes maxL ret nA) (hR : rm.cells = mc ∧ rm.slots = ms ∧ rm.frames + 1 ≤ R.frames ∧ 8 + (maxL + 11) + rm.locals ≤ R.locals) (hs : gSub n ad cz 0 n' ad' cz') (hk0 : k0 < n) (hO : gOb cz k0 ci) (hc : vwCl[ci]? = some (C, T, N)) (hn : As.length = nA) (hst : st0 = As.reverse ++ .ref (ad k0) :: rest) (hcat : (rest.map fun v => v.category).sum ≤ 8) (hd : decode cc pc = .ok (.invokevirtual index, 3)) (hroom : cells + mc ≤ R.cells ∧ slots + ms ≤ R.slots) (hpure : ∀ r ρ1, post r ρ1 → ρ1 = σ) (kk : ∀ r : Int32, post r σ → GW p l e R s m args below meth c Q nL D A n ad cz ρ (cells + mc) (slots + ms) (pc + 3) ls (.int r :: rest)) : GW p l e R s m args below meth c Q nL D A n ad cz ρ cells slots pc ls st0 := by
  intro H locs la hP hD hS hl
  have hfree := gA_sub hs hD hS X.2.2.1
  obtain ⟨fs9, hfs9⟩ := hO (ρ k0)
  exact va_calli (va_runV X.1 (hM H.size) (gCwV X.1.2.2.2.2 X.2.2.2.1 hL hR) ⟨gPc_blind, va_recv X.2.1 hP hc ((gWl_get hk0).trans (by rw [hfs9])), fun U hU hW => ⟨rfl, by rw [hU], by rw [hU]; exact gP_congr hσ (gP_sub hs hP), va_K.moved hW.alike X.2.1, gInj_sub hs (gD_inj hD), gNst_warm hW X.2.2.2.2⟩⟩ rfl hn hl.1 hst (lv_room hcat) hd hroom) hS (fun q _ h => hfree q h) hfree (fun r ρ1 t H1 locs1 ht hvm hw hB hz1 hk1 hS1 => by
    have e1 := hpure r ρ1 hw
    subst e1
    have hB1 : va_P D vwCl (gWl n' ad' cz' ρ1) H1 := by rw [← ht]; exact hB
    refine kk r hw H1 locs1 la (gP_congr (fun k hk => ?_) (gP_back hs (gD_inj hD) hP hk1 hB1)) (gD_of (gD_inj hD) (fun _ hk => gD_in hD hk)) hS1 hl
    simp only [gBack]
    by_cases hk9 : 0 ≤ k ∧ k < 0 + n'
    · rw [if_pos hk9, Nat.sub_zero]
      have h1 := hσ k (by omega)
      have h2 := (hs.2 k (by omega)).2
      rw [Nat.zero_add] at h1 h2
      rw [← h2, ← h2, h1]
    · rw [if_neg hk9])
end XW
