/-! Objects made anew: worlds whose cells are told outright -/
def cE (E : Nat → va_E) : Nat → (Nat → Int32) → va_E := fun k _ => E k
def z0 : gSt := fun _ _ => 0
def uE (E : Nat → va_E) (k : Nat) (x : va_E) : Nat → va_E := fun i => if i = k then x else E i
def jA (n0 : Nat) (ad u : Nat → Nat) : Nat → Nat := fun k => if k < n0 then ad k else u (k - n0)
def jE (n0 : Nat) (E F : Nat → va_E) : Nat → va_E := fun k => if k < n0 then E k else F (k - n0)
def gZr : Nat → Int32 := fun _ => 0
theorem gE_push {n q : Nat} {ad : Nat → Nat} {E : Nat → va_E} {x : va_E} : gWl (n + 1) (xAd ad n q) (cE (uE E n x)) z0 = gWl n ad (cE E) z0 ++ [(q, x)] := by
  simp only [gWl, List.range_succ, List.map_append, List.map_cons, List.map_nil]
  congr 1
  · apply List.map_congr_left
    intro k hk
    have : k ≠ n := by have := List.mem_range.mp hk; omega
    simp only [xAd, cE, uE]
    rw [if_neg this, if_neg this]
  · simp [xAd, cE, uE]
theorem gE_set {n k : Nat} {ad : Nat → Nat} {E : Nat → va_E} {x : va_E} (h : k < n) : (gWl n ad (cE E) z0).set k (ad k, x) = gWl n ad (cE (uE E k x)) z0 := by
  apply List.ext_getElem?
  intro i
  by_cases hk : i = k
  · subst hk
    rw [gWl_get h, List.getElem?_set_self (by simp [gWl]; exact h)]
    simp [cE, uE]
  · rw [List.getElem?_set_ne (fun q => hk q.symm)]
    by_cases hi : i < n
    · rw [gWl_get hi, gWl_get hi]
      simp [cE, uE, hk]
    · rw [List.getElem?_eq_none (by simp [gWl]; omega), List.getElem?_eq_none (by simp [gWl]; omega)]
theorem gE_join {n0 n' : Nat} {ad u : Nat → Nat} {E F : Nat → va_E} : gWl (n0 + n') (jA n0 ad u) (cE (jE n0 E F)) z0 = gWl n0 ad (cE E) z0 ++ gWl n' u (cE F) z0 := by
  apply List.ext_getElem?
  intro i
  have hlen : (gWl n0 ad (cE E) z0).length = n0 := by simp [gWl]
  by_cases h1 : i < n0
  · rw [gWl_get (by omega), List.getElem?_append_left (by rw [hlen]; exact h1), gWl_get h1]
    simp [cE, jA, jE, h1]
  · rw [List.getElem?_append_right (by rw [hlen]; omega), hlen]
    by_cases h2 : i < n0 + n'
    · rw [gWl_get h2, gWl_get (by omega)]
      simp [cE, jA, jE, h1]
    · rw [List.getElem?_eq_none (by simp [gWl]; omega), List.getElem?_eq_none (by simp [gWl]; omega)]
theorem gE_eq {n : Nat} {ad ad' : Nat → Nat} {E E' : Nat → va_E} (h : ∀ k, k < n → ad k = ad' k ∧ E k = E' k) : gWl n ad (cE E) z0 = gWl n ad' (cE E') z0 := by
  simp only [gWl]
  apply List.map_congr_left
  intro k hk
  obtain ⟨h1, h2⟩ := h k (List.mem_range.mp hk)
  simp only [cE]
  rw [h1, h2]
/-- the contract of a constructor: from an object's fresh cell to a world of its own -/
def gMC (l : Launch) (y : MethodName) (b : ByteArray) (nL : Nat) (rm : Room) (D : va_G) (cy : Nat → ClassId) (ci : Nat) (fs : List Value) (n' : Nat) (cz' : (Nat → Nat) → Nat → va_E) (mc ms : Nat) (Zs : List String) : Prop := ∀ q sz : Nat, Met l y (Cond.code y b nL none :: wAll) rm (va_Pc [.ref q] (fun U => U.heap.size = sz ∧ va_P D vwCl [(q, .inr (ci, fs))] U.heap ∧ va_K D vwCl (gT cy) U ∧ gNst U ∧ q < sz ∧ ∀ C9 ∈ Zs, va_AO C9 U)) (va_Qv (fun u : Nat → Nat => u 0 = q) (fun u t => va_P D vwCl (gWl n' u (cE (cz' u)) z0) t.heap ∧ va_D (fun x => x = q ∨ sz ≤ x) (gWl n' u (cE (cz' u)) z0)) (fun x => x = q ∨ sz ≤ x)) mc ms (fun x => x = q ∨ sz ≤ x)
def eSame (x y : va_E) : Prop := x = y ∨ ∃ (cA : ClassId) (len : Nat) (f f' : Nat → Option Nat), x = .inl (cA, len, .inr (.inr (.inr (.inr f)))) ∧ y = .inl (cA, len, .inr (.inr (.inr (.inr f')))) ∧ ∀ j, j < len → f j = f' j
theorem eSame.at {D : va_G} {cl : List vw_C} {q : Nat} {H : Heap} {x y : va_E} (h : eSame x y) (hx : va_at D cl (q, x) H) : va_at D cl (q, y) H := by
  rcases h with rfl | ⟨cA, len, f, f', rfl, rfl, h⟩
  · exact hx
  · have hx : H[q]? = some (vp_cell cA (len, .inr (.inr (.inr (.inr f))))) := hx
    show H[q]? = some (vp_cell cA (len, .inr (.inr (.inr (.inr f')))))
    rw [hx, vp_cell_q, vp_cell_q]
    have : (fun j : Fin len => va_rf (f j)) = fun j : Fin len => va_rf (f' j) := funext fun j => by rw [h j.1 j.2]
    unfold arrV
    rw [this]
section CTR
variable {p : Program} {l : Launch} {e : Env} {R : Room} {s : State} {m : MethodId} {args : Array Value} {below : List Frame} {meth : Method} {c : Code} {Q : State → Prop}
variable {cc : ByteArray} {nL : Nat} {Ts : List Cond} {own : String} {D : va_G} {cy : Nat → ClassId} {A : Nat → Prop}
variable {n : Nat} {ad : Nat → Nat} {cz : Nat → (Nat → Int32) → va_E} {ρ : gSt} {E : Nat → va_E} {cells slots pc : Nat} {ls ls' : List (Nat × Value)} {st st0 rest : List Value}
variable {y : MethodName} {rm : Room} {bytes : ByteArray} {maxL index mc ms : Nat} {C : String} {T : u_T} {N ci : Nat} {fs : List Value}

theorem gE_cg {ad' : Nat → Nat} {E' : Nat → va_E} (h : ∀ k, k < n → ad k = ad' k ∧ E k = E' k) (kk : GW p l e R s m args below meth c Q nL D A (n) (ad') (cE (E')) z0 (cells) (slots) (pc) ls (st)) : GW p l e R s m args below meth c Q nL D A (n) (ad) (cE (E)) z0 (cells) (slots) (pc) ls (st) := fun H locs la hP hD hS hl => kk H locs la (by rw [← gE_eq h]; exact hP) (by rw [← gE_eq h]; exact hD) hS hl
theorem g_obj (X : gX p m c cc nL s args Ts own D cy A) {a : Nat} (h1 : Cond.methodLink own index objectInit ∈ wAll) (h2 : Cond.instanceMethod objectInit ∈ wAll) (h3 : Cond.code objectInit ⟨#[0xb1]⟩ 1 none ∈ wAll) (hR : 1 ≤ R.frames ∧ (st.map fun v => v.category).sum + 12 ≤ R.locals) (hd : decode cc pc = .ok (.invokespecial index, 3)) (kk : GW p l e R s m args below meth c Q nL D A n ad cz ρ cells slots (pc + 3) ls st) : GW p l e R s m args below meth c Q nL D A n ad cz ρ cells slots pc ls (.ref a :: st) := fun H locs la hP hD hS hl => by
  have ht := X.1.2.2.2.2
  refine W.objInit X.1.1 X.1.2.1 X.1.2.2.2.1 (ht _ (X.2.2.2.1 _ h1)) (ht _ (X.2.2.2.1 _ h2)) (ht _ (X.2.2.2.1 _ h3)) rfl (hl.1.trans X.1.2.2.1.symm) rfl hd hR.1 (by show 2 * 0 + _ + _ ≤ _; omega) ?_
  exact W.eq (g2 := F0 m (pc + 3) la st) rfl (kk H locs la hP hD hS hl)
theorem gE_new (X : gX p m c cc nL s args Ts own D cy A) (hin : ∀ w ∈ u_ws C T N, w ∈ wAll) (ty : Nat → FieldType) (hty : ∀ k, k < N → parseFieldDescriptor (T k).2.2.1 = some (ty k)) (h1 : Cond.classLink own index C ∈ wAll) (h2 : Cond.instantiable C N ∈ wAll) (h3 : Cond.initialized C ∈ wAll) (hc : vwCl[ci]? = some (C, T, N)) (fs : List Value) (hfs : ∀ j, j < N → defaultValue (ty j) = vp_V fs j) (hroom : cells + 1 ≤ R.cells ∧ slots + N ≤ R.slots) (hd : decode cc pc = .ok (.new index, 3)) (kk : ∀ q, GW p l e R s m args below meth c Q nL D A (n + 1) (xAd ad n q) (cE (uE E n (.inr (ci, fs)))) z0 (cells + 1) (slots + N) (pc + 3) ls (.ref (xAd ad n q n) :: st)) : GW p l e R s m args below meth c Q nL D A (n) (ad) (cE (E)) z0 (cells) (slots) (pc) ls (st) := fun H locs la hP hD hS hl => by
  have ht := X.1.2.2.2.2
  refine va_new X.1.1 X.1.2.1 ht (fun w hw => X.2.2.2.1 _ (hin w hw)) ty hty X.1.2.2.2.1 (ht _ (X.2.2.2.1 _ h1)) (ht _ (X.2.2.2.1 _ h2)) (ht _ (X.2.2.2.1 _ h3)) X.2.1 hP hD hS X.2.2.1 hc hfs hroom.1 hroom.2 hd (fun q H1 hP1 hD1 hS1 => ?_)
  rw [← gE_push] at hP1 hD1
  have e9 : xAd ad n q n = q := by simp [xAd]
  have := kk q H1 locs la hP1 hD1 hS1 hl
  rw [e9] at this
  exact this
theorem gE_nq (X : gX p m c cc nL s args Ts own D cy A) (t0 : Nat) {cA : ClassId} (len : Nat) (hlen : len < 2 ^ 20) (h1 : Cond.classLink own index C ∈ wAll) (h2 : va_AO C s) (ht0 : (gT cy)[t0]? = some (cA, .object C)) (hroom : cells + 1 ≤ R.cells ∧ slots + len ≤ R.slots) (hd : decode cc pc = .ok (.anewarray index, 3)) (kk : ∀ q, GW p l e R s m args below meth c Q nL D A (n + 1) (xAd ad n q) (cE (uE E n (.inl (cA, len, .inr (.inr (.inr (.inr (fun _ => none)))))))) z0 (cells + 1) (slots + len) (pc + 3) ls (.ref (xAd ad n q n) :: st)) : GW p l e R s m args below meth c Q nL D A (n) (ad) (cE (E)) z0 (cells) (slots) (pc) ls (.int (nI len) :: st) := fun H locs la hP hD hS hl => by
  have ht := X.1.2.2.2.2
  refine va_newq X.1.1 X.1.2.1 X.1.2.2.2.1 (ht _ (X.2.2.2.1 _ h1)) h2 X.2.1 hP hD hS X.2.2.1 (fun h => nI_pos (show len < 2 ^ 31 by omega) h) (nI_clamp (by omega)) (by omega) hroom.1 hroom.2 hd (fun q cA1 H1 hK1 hP1 hD1 hS1 => ?_)
  have e0 : cA1 = cA := by
    obtain ⟨kA, comp, g1, g2, g3, g4⟩ := (hK1.2 5 (cA1, .object C) rfl).2
    obtain ⟨kA', comp', k1, k2, k3, k4⟩ := (X.2.1.2 t0 (cA, .object C) ht0).2
    exact Option.some.inj (g4.symm.trans k4)
  subst e0
  rw [← gE_push] at hP1 hD1
  have e9 : xAd ad n q n = q := by simp [xAd]
  have := kk q H1 locs la hP1 hD1 hS1 hl
  rw [e9] at this
  exact this
theorem gE_ast (X : gX p m c cc nL s args Ts own D cy A) (t0 : Nat) {cA : ClassId} (k k2 i len : Nat) (hk : k < n) (hk2 : k2 < n) {f : Nat → Option Nat} {vs : List Value} {r : vw_C} (ha : E k = .inl (cA, len, .inr (.inr (.inr (.inr f))))) (hv : E k2 = .inr (ci, vs)) (hc : vwCl[ci]? = some r) (ht0 : (gT cy)[t0]? = some (cA, .object r.1)) (hi : i < len) (hlen : len < 2 ^ 20) (hd : decode cc pc = .ok (.aastore, 1)) (kk : GW p l e R s m args below meth c Q nL D A (n) (ad) (cE (uE E k (.inl (cA, len, .inr (.inr (.inr (.inr (va_up f i (some (ad k2)))))))) )) z0 (cells) (slots) (pc + 1) ls (st)) : GW p l e R s m args below meth c Q nL D A (n) (ad) (cE (E)) z0 (cells) (slots) (pc) ls (.ref (ad k2) :: .int (nI i) :: .ref (ad k) :: st) := fun H locs la hP hD hS hl => by
  refine va_astq X.1.1 X.1.2.1 X.2.1 hP hD hS k t0 k2 ci ((gWl_get hk).trans (by simp only [cE]; rw [ha])) ht0 ((gWl_get hk2).trans (by simp only [cE]; rw [hv])) hc (pk_in i len hi rfl (by omega)) hd (fun H1 locs1 hP1 hD1 hS1 => ?_)
  rw [nI_clamp (by omega), gE_set hk] at hP1 hD1
  exact kk H1 locs1 la hP1 hD1 hS1 hl
theorem gE_newi (X : gX p m c cc nL s args Ts own D cy A) (len : Nat) (hlen : len < 2 ^ 20) (hw : Cond.arrayClass .int ∈ wAll) (hroom : cells + 1 ≤ R.cells ∧ slots + len ≤ R.slots) (hd : decode cc pc = .ok (.newarray .int, 2)) (kk : ∀ q, GW p l e R s m args below meth c Q nL D A (n + 1) (xAd ad n q) (cE (uE E n (.inl (cy 0, len, .inl gZr)))) z0 (cells + 1) (slots + len) (pc + 2) ls (.ref (xAd ad n q n) :: st)) : GW p l e R s m args below meth c Q nL D A (n) (ad) (cE (E)) z0 (cells) (slots) (pc) ls (.int (nI len) :: st) := fun H locs la hP hD hS hl => by
  refine va_newa (atype := .int) (a0 := (len, .inl gZr)) X.1.1 X.1.2.1 (X.1.2.2.2.2 _ (X.2.2.2.1 _ hw)) rfl X.2.1 hP hD hS X.2.2.1 (fun _ => rfl) (fun h => nI_pos (show len < 2 ^ 31 by omega) h) (nI_clamp (by omega)) (by show len * 4 ≤ _; omega) hroom.1 hroom.2 hd (fun q cA H1 hK1 hP1 hD1 hS1 => ?_)
  have e0 : cA = cy 0 := by
    have h1 := (hK1.2 5 (cA, .int) rfl).2
    have h2 := (X.2.1.2 0 (cy 0, .int) rfl).2
    exact Option.some.inj (h1.symm.trans h2)
  subst e0
  rw [← gE_push] at hP1 hD1
  have e9 : xAd ad n q n = q := by simp [xAd]
  have := kk q H1 locs la hP1 hD1 hS1 hl
  rw [e9] at this
  exact this
theorem gE_newz (X : gX p m c cc nL s args Ts own D cy A) (len : Nat) (hlen : len < 2 ^ 20) (hw : Cond.arrayClass .boolean ∈ wAll) (hroom : cells + 1 ≤ R.cells ∧ slots + len ≤ R.slots) (hd : decode cc pc = .ok (.newarray .boolean, 2)) (kk : ∀ q, GW p l e R s m args below meth c Q nL D A (n + 1) (xAd ad n q) (cE (uE E n (.inl (cy 1, len, .inl gZr)))) z0 (cells + 1) (slots + len) (pc + 2) ls (.ref (xAd ad n q n) :: st)) : GW p l e R s m args below meth c Q nL D A (n) (ad) (cE (E)) z0 (cells) (slots) (pc) ls (.int (nI len) :: st) := fun H locs la hP hD hS hl => by
  refine va_newa (atype := .boolean) (a0 := (len, .inl gZr)) X.1.1 X.1.2.1 (X.1.2.2.2.2 _ (X.2.2.2.1 _ hw)) rfl X.2.1 hP hD hS X.2.2.1 (fun _ => rfl) (fun h => nI_pos (show len < 2 ^ 31 by omega) h) (nI_clamp (by omega)) (by show len * 1 ≤ _; omega) hroom.1 hroom.2 hd (fun q cA H1 hK1 hP1 hD1 hS1 => ?_)
  have e0 : cA = cy 1 := by
    have h1 := (hK1.2 5 (cA, .boolean) rfl).2
    have h2 := (X.2.1.2 1 (cy 1, .boolean) rfl).2
    exact Option.some.inj (h1.symm.trans h2)
  subst e0
  rw [← gE_push] at hP1 hD1
  have e9 : xAd ad n q n = q := by simp [xAd]
  have := kk q H1 locs la hP1 hD1 hS1 hl
  rw [e9] at this
  exact this
theorem gE_putF (X : gX p m c cc nL s args Ts own D cy A) (k0 : Nat) (hk0 : k0 < n) (hin : ∀ w ∈ u_ws C T N, w ∈ wAll) (ty0 : Nat → FieldType) (hty : ∀ k, k < N → parseFieldDescriptor (T k).2.2.1 = some (ty0 k)) (hnm : ∀ a, a < N → ∀ b, b < N → a ≠ b → (T a).2.1 ≠ (T b).2.1) (hE : E k0 = .inr (ci, fs)) (hc : vwCl[ci]? = some (C, T, N)) (k : Nat) (hk : k < N) (hlink : Cond.fieldLink own index (T k).1 (T k).2.1 (T k).2.2.1 ∈ wAll) (hfin : (T k).2.2.2 = true) (hin2 : meth.name = "<init>") (hdecl : (T k).1 = own) {ty : FieldType} {v : Value} (hpd : parseFieldDescriptor (T k).2.2.1 = some ty) (hn : narrow ty v = v) (hfit : fits ty v = true) (hlt : k < fs.length) (hd : decode cc pc = .ok (.putfield index, 3)) (kk : GW p l e R s m args below meth c Q nL D A (n) (ad) (cE (uE E k0 (.inr (ci, fs.set k v)))) z0 (cells) (slots) (pc + 3) ls (st)) : GW p l e R s m args below meth c Q nL D A (n) (ad) (cE (E)) z0 (cells) (slots) (pc) ls (v :: .ref (ad k0) :: st) := fun H locs la hP hD hS hl => by
  have ht := X.1.2.2.2.2
  refine va_putF X.1.1 X.1.2.1 ht (fun w hw => X.2.2.2.1 _ (hin w hw)) ty0 hty hnm X.1.2.2.2.1 X.2.1 hP hD hS k0 ((gWl_get hk0).trans (by simp only [cE]; rw [hE])) hc k hk (ht _ (X.2.2.2.1 _ hlink)) (fun _ h9 => h9) hfin hin2 hdecl hpd hn hfit hlt hd (fun H1 locs1 hP1 hD1 hS1 => ?_)
  rw [gE_set hk0] at hP1 hD1
  exact kk H1 locs1 la hP1 hD1 hS1 hl
theorem gE_put (X : gX p m c cc nL s args Ts own D cy A) (k0 : Nat) (hk0 : k0 < n) (hin : ∀ w ∈ u_ws C T N, w ∈ wAll) (ty0 : Nat → FieldType) (hty : ∀ k, k < N → parseFieldDescriptor (T k).2.2.1 = some (ty0 k)) (hnm : ∀ a, a < N → ∀ b, b < N → a ≠ b → (T a).2.1 ≠ (T b).2.1) (hE : E k0 = .inr (ci, fs)) (hc : vwCl[ci]? = some (C, T, N)) (k : Nat) (hk : k < N) (hlink : Cond.fieldLink own index (T k).1 (T k).2.1 (T k).2.2.1 ∈ wAll) (hfin : (T k).2.2.2 = false) {ty : FieldType} {v : Value} (hpd : parseFieldDescriptor (T k).2.2.1 = some ty) (hn : narrow ty v = v) (hfit : fits ty v = true) (hlt : k < fs.length) (hd : decode cc pc = .ok (.putfield index, 3)) (kk : GW p l e R s m args below meth c Q nL D A (n) (ad) (cE (uE E k0 (.inr (ci, fs.set k v)))) z0 (cells) (slots) (pc + 3) ls (st)) : GW p l e R s m args below meth c Q nL D A (n) (ad) (cE (E)) z0 (cells) (slots) (pc) ls (v :: .ref (ad k0) :: st) := fun H locs la hP hD hS hl => by
  have ht := X.1.2.2.2.2
  refine va_put X.1.1 X.1.2.1 ht (fun w hw => X.2.2.2.1 _ (hin w hw)) ty0 hty hnm X.1.2.2.2.1 X.2.1 hP hD hS k0 ((gWl_get hk0).trans (by simp only [cE]; rw [hE])) hc k hk (ht _ (X.2.2.2.1 _ hlink)) (fun _ h9 => h9) hfin hpd hn hfit hlt hd (fun H1 locs1 hP1 hD1 hS1 => ?_)
  rw [gE_set hk0] at hP1 hD1
  exact kk H1 locs1 la hP1 hD1 hS1 hl
theorem gE_ctor (X : gX p m c cc nL s args Ts own D cy A) {n0 n' : Nat} (hn0 : n = n0 + 1) {cz' : (Nat → Nat) → Nat → va_E} {Zs : List String} (hM : gMC l y bytes maxL rm D cy ci fs n' cz' mc ms Zs) (hZs : ∀ C9 ∈ Zs, va_AO C9 s) (hL : Cond.methodLink own index y ∈ wAll) (hnm : y.name = "<init>") (hi : Cond.instanceMethod y ∈ wAll) (h4 : Cond.initialized y.cls ∈ wAll) (h5 : Cond.code y bytes maxL none ∈ wAll) (h6 : y.cls ≠ "java/lang/invoke/MethodHandle" ∧ y.cls ≠ "java/lang/invoke/VarHandle" ∧ (parseMethodDescriptor y.desc).map (fun d => d.parameters.length) = some 0) (hR : rm.cells = mc ∧ rm.slots = ms ∧ rm.frames + 1 ≤ R.frames ∧ 8 + (maxL + 11) + rm.locals ≤ R.locals) (hE : E n0 = .inr (ci, fs)) (hcat : (st.map fun v => v.category).sum ≤ 8) (hd : decode cc pc = .ok (.invokespecial index, 3)) (hroom : cells + mc ≤ R.cells ∧ slots + ms ≤ R.slots) (kk : ∀ u : Nat → Nat, u 0 = ad n0 → GW p l e R s m args below meth c Q nL D A (n0 + n') (jA n0 ad u) (cE (jE n0 E (cz' u))) z0 (cells + mc) (slots + ms) (pc + 3) ls (st)) : GW p l e R s m args below meth c Q nL D A (n) (ad) (cE (E)) z0 (cells) (slots) (pc) ls (.ref (ad n0) :: st) := fun H locs la hP hD hS hl => by
  have ht := X.1.2.2.2.2
  subst hn0
  have hA0 : A (ad n0) := gD_in hD (by omega)
  have hlt0 : ad n0 < H.size := (hP n0 _ (gWl_get (by omega))).lt
  refine va_callv (va_runI (As := []) X.1 (hM (ad n0) H.size) ⟨callB_of 0 (X.1.2.2.2.2) (gGood X.2.2.2.1 h5) rfl hR.1 hR.2.1 (ht _ (X.2.2.2.1 _ h4)) (ht _ (X.2.2.2.1 _ hL)) h6 hR.2.2, hnm, ht _ (X.2.2.2.1 _ hi)⟩ ⟨fun a U g mk q => by obtain ⟨q0, q1, qP, qK, qN, qz, qA⟩ := q; exact ⟨q0, q1, qP, va_K.moved (u := U) (U := U.calling g mk a) (Vm.Alike.refl U.vm) qK, gNst_same (u := U) (U := U.calling g mk a) rfl qN, qz, fun C9 h9 => va_AO.moved (u := U) (U := U.calling g mk a) (Vm.Alike.refl U.vm) (qA C9 h9)⟩, fun U hU hW => ⟨rfl, by rw [hU], ?_, va_K.moved hW.alike X.2.1, gNst_warm hW X.2.2.2.2, hlt0, fun C9 h9 => va_AO.moved hW.alike (hZs C9 h9)⟩⟩ rfl rfl hl.1 rfl (lv_room hcat) hd hroom) hS (fun q hq h => ?_) (fun q h => ?_) (fun u t H1 locs1 hth hvm hw hB hz1 hk1 hS1 => ?_)
  · rw [hU]
    intro k q hq
    have hk0 : k = 0 := by
      rcases k with _ | k
      · rfl
      · simp at hq
    subst hk0
    cases hq
    have := hP n0 _ (gWl_get (by omega))
    simp only [cE] at this
    rw [hE] at this
    exact this
  · rcases h with rfl | h
    · exact hA0
    · omega
  · rcases h with rfl | h
    · exact hA0
    · exact X.2.2.1 _ (Nat.le_trans hS.1 h)
  · obtain ⟨hP1, hD1⟩ := hB
    rw [hth] at hP1
    have hne : ∀ k, k < n0 → ad k ≠ ad n0 := fun k hk h9 => by
      have := gD_inj hD k n0 (by omega) (by omega) h9
      omega
    have hbase : va_P D vwCl (gWl n0 ad (cE E) z0) H1 := by
      intro k q hq
      obtain ⟨hk, rfl⟩ := gWl_out hq
      have h := hP k _ (gWl_get (by omega))
      refine h.kept (hk1 _ h.lt ?_)
      rintro (h9 | h9)
      · exact hne k hk h9
      · have := h.lt
        exact absurd this (Nat.not_lt.mpr h9)
    have hPj := hbase.app hP1
    have hDn : va_D A (gWl n0 ad (cE E) z0) := gD_of (fun i j h1 h2 h3 => gD_inj hD i j (by omega) (by omega) h3) (fun k hk => gD_in hD (by omega))
    have hDu : va_D A (gWl n' u (cE (cz' u)) z0) := hD1.weaken (fun k q hq h9 => by
      rcases h9 with h9 | h9
      · rw [h9]; exact hA0
      · exact X.2.2.1 _ (Nat.le_trans hS.1 h9))
    have hDj := hDn.app hDu (fun i j x1 x2 h1 h2 h3 => by
      obtain ⟨hi9, rfl⟩ := gWl_out h1
      have h4 := hD1.2 j _ h2
      have h3 : ad i = x2.1 := h3
      rw [← h3] at h4
      rcases h4 with h4 | h4
      · exact hne i hi9 h4
      · have := (hP i _ (gWl_get (by omega))).lt
        exact absurd this (Nat.not_lt.mpr h4))
    rw [← gE_join] at hPj hDj
    exact kk u hw H1 locs1 la hPj hDj hS1 hl
theorem gE_ctorN (X : gX p m c cc nL s args Ts own D cy A) {n0 n' : Nat} (hn0 : n = n0 + 1) {cz' : (Nat → Nat) → Nat → va_E} {Zs : List String} (hM : gMC l y bytes maxL rm D cy ci fs n' cz' mc ms Zs) (hZs : ∀ C9 ∈ Zs, va_AO C9 s) {host : String} (hL : Cond.methodLinkNest own index y host ∈ gNsw) (hnm : y.name = "<init>") (hi : Cond.instanceMethod y ∈ wAll) (h4 : Cond.initialized y.cls ∈ wAll) (h5 : Cond.code y bytes maxL none ∈ wAll) (h6 : y.cls ≠ "java/lang/invoke/MethodHandle" ∧ y.cls ≠ "java/lang/invoke/VarHandle" ∧ (parseMethodDescriptor y.desc).map (fun d => d.parameters.length) = some 0) (hR : rm.cells = mc ∧ rm.slots = ms ∧ rm.frames + 1 ≤ R.frames ∧ 8 + (maxL + 11) + rm.locals ≤ R.locals) (hE : E n0 = .inr (ci, fs)) (hcat : (st.map fun v => v.category).sum ≤ 8) (hd : decode cc pc = .ok (.invokespecial index, 3)) (hroom : cells + mc ≤ R.cells ∧ slots + ms ≤ R.slots) (kk : ∀ u : Nat → Nat, u 0 = ad n0 → GW p l e R s m args below meth c Q nL D A (n0 + n') (jA n0 ad u) (cE (jE n0 E (cz' u))) z0 (cells + mc) (slots + ms) (pc + 3) ls (st)) : GW p l e R s m args below meth c Q nL D A (n) (ad) (cE (E)) z0 (cells) (slots) (pc) ls (.ref (ad n0) :: st) := fun H locs la hP hD hS hl => by
  have ht := X.1.2.2.2.2
  subst hn0
  have hA0 : A (ad n0) := gD_in hD (by omega)
  have hlt0 : ad n0 < H.size := (hP n0 _ (gWl_get (by omega))).lt
  refine va_callv (va_runIN (As := []) X.1 (hM (ad n0) H.size) ⟨gCwN ht X.2.2.2.1 X.2.2.2.2 hL h4 h5 h6 hR, hnm, ht _ (X.2.2.2.1 _ hi)⟩ ⟨fun a U g mk q => by obtain ⟨q0, q1, qP, qK, qN, qz, qA⟩ := q; exact ⟨q0, q1, qP, va_K.moved (u := U) (U := U.calling g mk a) (Vm.Alike.refl U.vm) qK, gNst_same (u := U) (U := U.calling g mk a) rfl qN, qz, fun C9 h9 => va_AO.moved (u := U) (U := U.calling g mk a) (Vm.Alike.refl U.vm) (qA C9 h9)⟩, fun U hU hW => ⟨rfl, by rw [hU], ?_, va_K.moved hW.alike X.2.1, gNst_warm hW X.2.2.2.2, hlt0, fun C9 h9 => va_AO.moved hW.alike (hZs C9 h9)⟩⟩ rfl rfl hl.1 rfl (lv_room hcat) hd hroom) hS (fun q hq h => ?_) (fun q h => ?_) (fun u t H1 locs1 hth hvm hw hB hz1 hk1 hS1 => ?_)
  · rw [hU]
    intro k q hq
    have hk0 : k = 0 := by
      rcases k with _ | k
      · rfl
      · simp at hq
    subst hk0
    cases hq
    have := hP n0 _ (gWl_get (by omega))
    simp only [cE] at this
    rw [hE] at this
    exact this
  · rcases h with rfl | h
    · exact hA0
    · omega
  · rcases h with rfl | h
    · exact hA0
    · exact X.2.2.1 _ (Nat.le_trans hS.1 h)
  · obtain ⟨hP1, hD1⟩ := hB
    rw [hth] at hP1
    have hne : ∀ k, k < n0 → ad k ≠ ad n0 := fun k hk h9 => by
      have := gD_inj hD k n0 (by omega) (by omega) h9
      omega
    have hbase : va_P D vwCl (gWl n0 ad (cE E) z0) H1 := by
      intro k q hq
      obtain ⟨hk, rfl⟩ := gWl_out hq
      have h := hP k _ (gWl_get (by omega))
      refine h.kept (hk1 _ h.lt ?_)
      rintro (h9 | h9)
      · exact hne k hk h9
      · have := h.lt
        exact absurd this (Nat.not_lt.mpr h9)
    have hPj := hbase.app hP1
    have hDn : va_D A (gWl n0 ad (cE E) z0) := gD_of (fun i j h1 h2 h3 => gD_inj hD i j (by omega) (by omega) h3) (fun k hk => gD_in hD (by omega))
    have hDu : va_D A (gWl n' u (cE (cz' u)) z0) := hD1.weaken (fun k q hq h9 => by
      rcases h9 with h9 | h9
      · rw [h9]; exact hA0
      · exact X.2.2.1 _ (Nat.le_trans hS.1 h9))
    have hDj := hDn.app hDu (fun i j x1 x2 h1 h2 h3 => by
      obtain ⟨hi9, rfl⟩ := gWl_out h1
      have h4 := hD1.2 j _ h2
      have h3 : ad i = x2.1 := h3
      rw [← h3] at h4
      rcases h4 with h4 | h4
      · exact hne i hi9 h4
      · have := (hP i _ (gWl_get (by omega))).lt
        exact absurd this (Nat.not_lt.mpr h4))
    rw [← gE_join] at hPj hDj
    exact kk u hw H1 locs1 la hPj hDj hS1 hl
theorem gE_ret (X : gX p m c cc nL s args Ts own D cy A) (hr : meth.sig.returnType = none) (hlocks : meth.locks = false) (q : Nat) (hA : A = fun x => x = q ∨ s.heap.size ≤ x) {cz' : (Nat → Nat) → Nat → va_E} (u : Nat → Nat) (hu : u 0 = q) (n' : Nat) (g : Nat → Nat) (hg : ∀ k, k < n' → g k < n ∧ ad (g k) = u k ∧ eSame (E (g k)) (cz' u k)) (hgi : ∀ i j, i < n' → j < n' → g i = g j → i = j) (hc : cells ≤ mc) (hs : slots ≤ ms) (hd : decode cc pc = .ok (.return_, 1)) : GW p l e R s m args below meth c (MQ below (va_Qv (fun u : Nat → Nat => u 0 = q) (fun u t => va_P D vwCl (gWl n' u (cE (cz' u)) z0) t.heap ∧ va_D (fun x => x = q ∨ s.heap.size ≤ x) (gWl n' u (cE (cz' u)) z0)) (fun x => x = q ∨ s.heap.size ≤ x)) args s mc ms (fun x => x = q ∨ s.heap.size ≤ x)) nL D A n ad (cE E) z0 cells slots pc ls [] := fun H locs la hP hD hS hl => by
  subst hA
  have hi : gInj n' u := fun i j h1 h2 h3 => by
    obtain ⟨a1, a2, a3⟩ := hg i h1
    obtain ⟨b1, b2, b3⟩ := hg j h2
    rw [← a2, ← b2] at h3
    exact hgi i j h1 h2 (gD_inj hD _ _ a1 b1 h3)
  have hP2 : va_P D vwCl (gWl n' u (cE (cz' u)) z0) H := fun k x hx => by
    obtain ⟨hk, rfl⟩ := gWl_out hx
    obtain ⟨h1, h2, h3⟩ := hg k hk
    have := hP (g k) _ (gWl_get h1)
    rw [h2] at this
    exact h3.at this
  exact W.widen hc hs (W.vret X.1.1 X.1.2.1 hr (fun t ht hW => ⟨⟨u, rfl, hu, by rw [ht]; exact hP2, gD_of hi (fun k hk => by rw [← (hg k hk).2.1]; exact gD_in hD (hg k hk).1)⟩, hS.F ht⟩) hS.2.2 hd hlocks)
theorem gMC_of {n' : Nat} {Zs : List String} {cz' : (Nat → Nat) → Nat → va_E} (own : String) (hown : y.cls = own) (hy : plainFor y = true) (hlen : 1 ≤ nL) (body : ∀ (p : Program) (e : Env) (s : State) (m : MethodId) (args : Array Value) (below : List Frame) (meth : Method) (c : Code) (A : Nat → Prop) (q : Nat), A = (fun x => x = q ∨ s.heap.size ≤ x) → gX p m c cc nL s args (Cond.code y cc nL none :: wAll) own D cy A → meth.sig.returnType = none → meth.locks = false → meth.name = y.name → (∀ C9 ∈ Zs, va_AO C9 s) → GW p l e rm s m args below meth c (MQ below (va_Qv (fun u : Nat → Nat => u 0 = q) (fun u t => va_P D vwCl (gWl n' u (cE (cz' u)) z0) t.heap ∧ va_D (fun x => x = q ∨ s.heap.size ≤ x) (gWl n' u (cE (cz' u)) z0)) (fun x => x = q ∨ s.heap.size ≤ x)) args s mc ms (fun x => x = q ∨ s.heap.size ≤ x)) nL D A 1 (fun _ => q) (cE (fun _ => .inr (ci, fs))) z0 0 0 0 [(0, .ref q)] []) : gMC l y cc nL rm D cy ci fs n' cz' mc ms Zs := by
  intro q sz
  refine va_MetF (cc := cc) (maxL := nL) (ret := none) hy rfl ?_
  intro p e s m args below meth c s₁ B hml hv
  obtain ⟨rfl, hsz, hP, hK, hN, hq, hZ⟩ := hv
  have hts := atoms_spec (ws := Cond.code y cc nL none :: wAll) B.pre
  have hfc := findClass_of_methodNamed B.named
  rw [hown] at hfc
  have hl := lv_entry [Value.ref q] (n := nL) hlen
  rw [lg_entry_eq]
  subst hsz
  refine body p e s m _ below meth c (fun x => x = q ∨ s.heap.size ≤ x) q rfl ⟨⟨B.exec, B.bytes, hml, hfc, hts⟩, hK, fun q h => Or.inr h, fun w h => List.mem_cons_of_mem _ h, hN⟩ B.returns B.notSynchronized (name_of_methodNamed B.named B.method).1 hZ s.heap [] _ hP ?_ va_S.rf hl
  refine ⟨fun i j x1 x2 h1 h2 h3 => ?_, fun k x hx => ?_⟩
  · have a1 := (gWl_out h1).1
    have a2 := (gWl_out h2).1
    omega
  · obtain ⟨hk, rfl⟩ := gWl_out hx
    exact Or.inl rfl
end CTR
