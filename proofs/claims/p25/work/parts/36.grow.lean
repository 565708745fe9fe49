/-! Rows of rows made anew -/
def xEz (cz : Nat → (Nat → Int32) → va_E) (n : Nat) (x : va_E) : Nat → (Nat → Int32) → va_E := fun k r => if k = n then x else cz k r
theorem xEz_at {cz : Nat → (Nat → Int32) → va_E} {n : Nat} {x : va_E} {r : Nat → Int32} : xEz cz n x n r = x := if_pos rfl
theorem xEz_ne {cz : Nat → (Nat → Int32) → va_E} {n k : Nat} {x : va_E} {r : Nat → Int32} (h : k ≠ n) : xEz cz n x k r = cz k r := if_neg h
theorem xEz_xEz {cz : Nat → (Nat → Int32) → va_E} {n : Nat} {x y : va_E} : xEz (xEz cz n x) n y = xEz cz n y := by
  funext k r
  unfold xEz
  by_cases h : k = n
  · rw [if_pos h, if_pos h]
  · rw [if_neg h, if_neg h, if_neg h]
theorem gAI_e {cz : Nat → (Nat → Int32) → va_E} {n k len : Nat} {cA : ClassId} {x : va_E} (h : gAI cz cA k len) (hk : k ≠ n) : gAI (xEz cz n x) cA k len := fun r => by rw [xEz_ne hk]; exact h r
theorem gAR_e {cz : Nat → (Nat → Int32) → va_E} {ad : Nat → Nat} {n k len q : Nat} {cA : ClassId} {tgt : Nat → Nat} {x : va_E} (h : gAR cz ad cA k len tgt) (hk : k ≠ n) (ht : ∀ i, i < len → tgt i ≠ n) : gAR (xEz cz n x) (xAd ad n q) cA k len tgt := fun r => by
  obtain ⟨f, h1, h2⟩ := h r
  exact ⟨f, by rw [xEz_ne hk]; exact h1, fun i hi => by rw [h2 i hi]; simp only [xAd]; rw [if_neg (ht i hi)]⟩
theorem gWl_e {n q : Nat} {ad : Nat → Nat} {cz : Nat → (Nat → Int32) → va_E} {ρ : gSt} {x : va_E} : gWl (n + 1) (xAd ad n q) (xEz cz n x) ρ = gWl n ad cz ρ ++ [(q, x)] := by
  simp only [gWl, List.range_succ, List.map_append, List.map_cons, List.map_nil]
  congr 1
  · apply List.map_congr_left
    intro k hk
    have : k ≠ n := by have := List.mem_range.mp hk; omega
    simp only [xAd, xEz]
    rw [if_neg this, if_neg this]
  · simp [xAd, xEz]
theorem gWl_eset {n k : Nat} {ad : Nat → Nat} {cz : Nat → (Nat → Int32) → va_E} {ρ : gSt} {x : va_E} (h : k < n) : (gWl n ad cz ρ).set k (ad k, x) = gWl n ad (xEz cz k x) ρ := by
  apply List.ext_getElem?
  intro i
  by_cases hk : i = k
  · subst hk
    rw [gWl_get h, List.getElem?_set_self (by simp [gWl]; exact h), xEz_at]
  · rw [List.getElem?_set_ne (fun q => hk q.symm)]
    by_cases hi : i < n
    · rw [gWl_get hi, gWl_get hi, xEz_ne hk]
    · rw [List.getElem?_eq_none (by simp [gWl]; omega), List.getElem?_eq_none (by simp [gWl]; omega)]
abbrev rfs (f : Nat → Option Nat) : (Nat → Int32) ⊕ (Nat → Int64) ⊕ (Nat → UInt32) ⊕ (Nat → UInt64) ⊕ (Nat → Option Nat) := .inr (.inr (.inr (.inr f)))
theorem z_asg {vm : Vm} (x : ClassId) : vm.assignable x x = true := by
  have : ∀ (f : Nat), vm.assignableAux (f + 1) x x = true := fun f => by
    unfold Vm.assignableAux
    simp
  exact this 255
theorem z_comp {D : va_G} {cy : Nat → ClassId} {s : State} (hK : va_K D vwCl (gT cy) s) (hz : zAO s) : ∃ kA : Class, s.vm.classes[cy 4]? = some kA ∧ kA.kind = .array (cy 0) (.array .int) := by
  obtain ⟨comp, c, k, h1, h2, h3, h4, h5⟩ := arrayOverA_spec hz
  have e4 : s.vm.findClass ("[" ++ (FieldType.array .int).toString) = some (cy 4) := (hK.2 4 _ rfl).2
  have e0 : s.vm.findClass ("[" ++ FieldType.int.toString) = some (cy 0) := (hK.2 0 _ rfl).2
  have ec : c = cy 4 := Option.some.inj (h5.symm.trans e4)
  have e1 : comp = cy 0 := Option.some.inj (h1.symm.trans e0)
  subst ec e1
  exact ⟨k, h3, h4⟩
section GG
variable {p : Program} {l : Launch} {e : Env} {R : Room} {s : State} {m : MethodId} {args : Array Value} {below : List Frame} {meth : Method} {c : Code} {Q : State → Prop}
variable {cc : ByteArray} {nL : Nat} {Ts : List Cond} {own : String} {D : va_G} {cy : Nat → ClassId} {A : Nat → Prop}
variable {n n' : Nat} {ad ad' : Nat → Nat} {cz cz' : Nat → (Nat → Int32) → va_E} {ρ ρ' : gSt} {cells slots pc : Nat} {ls ls' : List (Nat × Value)} {st st0 rest : List Value}
variable {y : MethodName} {rm : Room} {bytes : ByteArray} {maxL nA index mc ms : Nat} {ret : Option FieldType} {C : String} {Tf : u_T} {Nf ci : Nat} {As : List Value}
theorem g_nqA (X : gX p m c cc nL s args Ts own D cy A) (hz : zAO s) (len : Nat) (hlen : len < 2 ^ 20) (h1 : Cond.classLink own index "[I" ∈ wAll) (hroom : cells + 1 ≤ R.cells ∧ slots + len ≤ R.slots) (hd : decode cc pc = .ok (.anewarray index, 3)) (kk : ∀ q, GW p l e R s m args below meth c Q nL D A (n + 1) (xAd ad n q) (xEz cz n (.inl (cy 4, len, rfs (fun _ => none)))) ρ (cells + 1) (slots + len) (pc + 3) ls (.ref q :: st)) : GW p l e R s m args below meth c Q nL D A n ad cz ρ cells slots pc ls (.int (nI len) :: st) := fun H locs la hP hD hS hl => by
  have e20 : (nI len).toNatClampNeg = len := nI_clamp (by omega)
  refine W.anewA (t := .int) X.1.1 X.1.2.1 X.1.2.2.2.1 (X.1.2.2.2.2 _ (X.2.2.2.1 _ h1)) (show (Cond.arrayOver (.array .int)).before args s = true from hz) rfl hd rfl (fun h => nI_pos (show len < 2 ^ 31 by omega) h) (by rw [e20]; omega) hroom.1 (by rw [e20]; exact hroom.2) (fun cA kA comp f1 f2 f3 f4 => ?_)
  rw [e20]
  have ec : cA = cy 4 := Option.some.inj (f1.symm.trans (X.2.1.2 4 (cy 4, .array .int) rfl).2)
  subst ec
  generalize hH1 : H.push ({ cls := cy 4, slots := Array.replicate len .null, vm := .none } : Cell) = H1
  have z1 : H1.size = H.size + 1 := by rw [← hH1, Array.size_push]
  have e1 : H1[H.size]? = some (arrV (cy 4) len (fun _ => .null)) := by rw [← hH1, Array.getElem?_push_size, ← arrV_new]
  have o1 : ∀ q : Nat, q < H.size → H1[q]? = H[q]? := fun q hq => by rw [← hH1, Array.getElem?_push, if_neg (Nat.ne_of_lt hq)]
  have hk : ∀ (k : Nat) (x : Nat × va_E), (gWl n ad cz ρ)[k]? = some x → H1[x.1]? = H[x.1]? := fun k x hx => o1 x.1 ((hP k x hx).lt)
  have hP1 : va_P D vwCl (gWl n ad cz ρ ++ [(H.size, .inl (cy 4, len, rfs (fun _ => none)))]) H1 := (hP.kept hk).app (fun k x hx => by
    have hz9 : k < 1 := (List.getElem?_eq_some_iff.mp hx).1
    rw [show k = 0 by omega] at hx
    cases hx
    show H1[H.size]? = some (vp_cell _ _)
    rw [vp_cell_q]
    exact e1)
  have hD1 : va_D A (gWl n ad cz ρ ++ [(H.size, .inl (cy 4, len, rfs (fun _ => none)))]) := hD.push hP rfl (X.2.2.1 _ hS.1)
  rw [← gWl_e] at hP1 hD1
  exact kk H.size H1 _ la hP1 hD1 ⟨Nat.le_trans hS.1 (by omega), fun x h1 h2 => (o1 x (Nat.lt_of_lt_of_le h1 hS.1)).trans (hS.2.1 x h1 h2), hS.2.2⟩ hl
theorem g_astA (X : gX p m c cc nL s args Ts own D cy A) (hz : zAO s) (k0 k2 i : Nat) {len lo : Nat} {f : Nat → Option Nat} (hk0 : k0 < n) (hk2 : k2 < n) (hx : cz k0 (ρ k0) = .inl (cy 4, len, rfs f)) (hv : gAI cz (cy 0) k2 lo) (hi : i < len) (hlen : len < 2 ^ 20) (hd : decode cc pc = .ok (.aastore, 1)) (kk : GW p l e R s m args below meth c Q nL D A n ad (xEz cz k0 (.inl (cy 4, len, rfs (va_up f i (some (ad k2)))))) ρ cells slots (pc + 1) ls st) : GW p l e R s m args below meth c Q nL D A n ad cz ρ cells slots pc ls (.ref (ad k2) :: .int (nI i) :: .ref (ad k0) :: st) := fun H locs la hP hD hS hl => by
  have e20 : (nI i).toNatClampNeg = i := nI_clamp (by omega)
  have h0 : ¬ nI i < 0 := fun h => nI_pos (show i < 2 ^ 31 by omega) h
  have ha : (gWl n ad cz ρ)[k0]? = some (ad k0, .inl (cy 4, len, rfs f)) := (gWl_get hk0).trans (by rw [hx])
  have hv9 : (gWl n ad cz ρ)[k2]? = some (ad k2, .inl (cy 0, lo, .inl (ρ k2))) := (gWl_get hk2).trans (by rw [hv])
  have hc0 : H[ad k0]? = some (vp_cell (cy 4) (len, rfs f)) := hP k0 _ ha
  have hc2 : H[ad k2]? = some (vp_cell (cy 0) (lo, .inl (ρ k2))) := hP k2 _ hv9
  obtain ⟨kA, k1, kk1⟩ := z_comp X.2.1 hz
  obtain ⟨-, kV, kv1, -⟩ := (X.2.1.2 0 (cy 0, .int) rfl).1 lo (fun j => .int (ρ k2 j))
  refine W.aast X.1.1 X.1.2.1 hc0 (fun q h => by cases h) (fun h => by cases h) k1 kk1 rfl kv1 ⟨h0, by show _ < (arrV _ _ _).slots.size; rw [arrV_size, e20]; exact hi⟩ hc2 (fun q h => by cases h) kv1 (z_asg _) rfl rfl hd fun H1 e1 z1 oq => ?_
  have hP1 := hP.set hD ha (e := .inl (cy 4, len, rfs (va_up f i (some (ad k2))))) (H1 := H1) (by
    show H1[ad k0]? = some (vp_cell _ _)
    rw [e1, e20]
    rw [vp_cell_q, vp_cell_q, arrV_store]
    congr 2
    funext q
    by_cases hq : q = i
    · subst hq
      simp [updV, va_up, va_rf]
    · simp [updV, va_up, hq]) oq
  have hD1 := hD.set ha (e := .inl (cy 4, len, rfs (va_up f i (some (ad k2)))))
  rw [gWl_eset hk0] at hP1 hD1
  exact kk H1 _ la hP1 hD1 (hS.put z1 oq (hD.2 k0 _ ha)) hl
/-- a loop whose layout is told by the number of rounds -/
theorem g_loopZ (zf : Nat → Nat → (Nat → Int32) → va_E) (lf : Nat → List (Nat × Value)) (N : Nat) (hz : cz = zf 0) (hl : ls = lf 0) (step : ∀ i : Nat, i ≤ N → (i < N → GW p l e R s m args below meth c Q nL D A n ad (zf (i + 1)) ρ cells slots pc (lf (i + 1)) st) → GW p l e R s m args below meth c Q nL D A n ad (zf i) ρ cells slots pc (lf i) st) : GW p l e R s m args below meth c Q nL D A n ad cz ρ cells slots pc ls st := by
  subst hz hl
  have key : ∀ (k i : Nat), i + k = N → GW p l e R s m args below meth c Q nL D A n ad (zf i) ρ cells slots pc (lf i) st := by
    intro k
    induction k with
    | zero => intro i hi; exact step i (by omega) (fun h => absurd h (by omega))
    | succ k ih => intro i hi; exact step i (by omega) (fun _ => ih (i + 1) (by omega))
  exact key N 0 (by omega)
theorem g_joinP (tgt : Nat) (P : Int32 → Prop) (k2 : (∀ x : Int32, P x → GW p l e R s m args below meth c Q nL D A n ad cz ρ cells slots tgt ls (.int x :: st)) → GW p l e R s m args below meth c Q nL D A n ad cz ρ cells slots pc ls st) (kk : ∀ x : Int32, P x → GW p l e R s m args below meth c Q nL D A n ad cz ρ cells slots tgt ls (.int x :: st)) : GW p l e R s m args below meth c Q nL D A n ad cz ρ cells slots pc ls st := k2 kk
theorem g_pushR {F n0 q lenq : Nat} (F1 : Nat) (hF1 : F + 1 = F1) {fa adw : Nat → Nat} {fz czw : Nat → (Nat → Int32) → va_E} {φ ρw : gSt} {cA : ClassId} {r : Nat → Int32} (kk : GW p l e R s m args below meth c Q nL D A (F1 + n0) (jF F1 (xAd fa F q) adw) (jF F1 (xCz fz F cA lenq) czw) (jF F1 (up1 φ F r) ρw) cells slots pc ls st) : GW p l e R s m args below meth c Q nL D A (F + n0 + 1) (xAd (jF F fa adw) (F + n0) q) (xCz (jF F fz czw) (F + n0) cA lenq) (up1 (jF F φ ρw) (F + n0) r) cells slots pc ls st := by
  subst hF1
  refine g_ren (fun k => if k < F then k else if k = F then F + n0 else k - 1) (fun k hk => ?_) (fun i j hi hj h => ?_) kk
  · by_cases h1 : k < F
    · refine ⟨?_, ?_, Or.inl ?_⟩
      · rw [if_pos h1]; omega
      · simp only [jF, xAd, if_pos h1, if_neg (show ¬ k = F + n0 by omega), if_neg (show ¬ k = F by omega), if_pos (show k < F + 1 by omega)]
      · simp only [jF, xCz, up1, if_pos h1, if_neg (show ¬ k = F + n0 by omega), if_neg (show ¬ k = F by omega), if_pos (show k < F + 1 by omega)]
    · by_cases h2 : k = F
      · refine ⟨?_, ?_, Or.inl ?_⟩
        · rw [if_neg h1, if_pos h2]; omega
        · simp [jF, xAd, h2]
        · simp [jF, xCz, up1, h2]
      · refine ⟨?_, ?_, Or.inl ?_⟩
        · rw [if_neg h1, if_neg h2]; omega
        · simp only [jF, xAd, if_neg h1, if_neg h2, if_neg (show ¬ k - 1 = F + n0 by omega), if_neg (show ¬ k - 1 < F by omega), if_neg (show ¬ k < F + 1 by omega), show k - 1 - F = k - (F + 1) by omega]
        · simp only [jF, xCz, up1, if_neg h1, if_neg h2, if_neg (show ¬ k - 1 = F + n0 by omega), if_neg (show ¬ k - 1 < F by omega), if_neg (show ¬ k < F + 1 by omega), show k - 1 - F = k - (F + 1) by omega]
  · split at h <;> split at h <;> (try split at h) <;> (try split at h) <;> omega
def gPz (D : va_G) (cy : Nat → ClassId) (n : Nat) (ad : Nat → Nat) (cz : Nat → (Nat → Int32) → va_E) (ρ : gSt) (argv : List Value) (sz : Nat) : Array Value → State → Prop := va_Pc argv (fun U => U.heap.size = sz ∧ va_P D vwCl (gWl n ad cz ρ) U.heap ∧ va_K D vwCl (gT cy) U ∧ gInj n ad ∧ gNst U ∧ zAO U)
theorem gPz_blind {argv : List Value} {sz : Nat} : FrameBlind (gPz D cy n ad cz ρ argv sz) := fun a U g mk q => by
  obtain ⟨q0, q1, q2, q3, q4, q6, q5⟩ := q
  exact ⟨q0, q1, q2, va_K.moved (u := U) (U := U.calling g mk a) (Vm.Alike.refl U.vm) q3, q4, gNst_same (u := U) (U := U.calling g mk a) rfl q6, zAO.moved (u := U) (U := U.calling g mk a) (Vm.Alike.refl U.vm) q5⟩
/-- a method that answers a row made anew -/
def gRA (l : Launch) (y : MethodName) (b : ByteArray) (nL : Nat) (ret : Option FieldType) (rm : Room) (D : va_G) (cy : Nat → ClassId) (n : Nat) (ad : Nat → Nat) (cz : Nat → (Nat → Int32) → va_E) (argv : List Value) (ρ : gSt) (cz1 : Nat → (Nat → Int32) → va_E) (ρ1 : gSt) (mc ms : Nat) : Prop := ∀ sz : Nat, Met l y (Cond.code y b nL ret :: wAll) rm (gPz D cy n ad cz ρ argv sz) (va_Qr (fun _ : Unit => True) (fun _ a t => sz ≤ a ∧ va_P D vwCl (gWl (n + 1) (xAd ad n a) cz1 ρ1) t.heap) (gA n ad sz)) mc ms (gA n ad sz)
theorem gRA_of {argv : List Value} {cz1 : Nat → (Nat → Int32) → va_E} {ρ1 : gSt} (own : String) (hown : y.cls = own) (hy : plainFor y = true) (hlen : (lg_sl argv).length ≤ nL) (hls : lv_args 0 argv = ls) (body : ∀ (p : Program) (e : Env) (s : State) (m : MethodId) (args : Array Value) (below : List Frame) (meth : Method) (c : Code) (A : Nat → Prop), gX p m c cc nL s args (Cond.code y cc nL ret :: wAll) own D cy A → zAO s → A = gA n ad s.heap.size → meth.sig.returnType = ret → meth.locks = false → GW p l e rm s m args below meth c (MQ below (va_Qr (fun _ : Unit => True) (fun _ a t => s.heap.size ≤ a ∧ va_P D vwCl (gWl (n + 1) (xAd ad n a) cz1 ρ1) t.heap) A) args s mc ms A) nL D A n ad cz ρ 0 0 0 ls []) : gRA l y cc nL ret rm D cy n ad cz argv ρ cz1 ρ1 mc ms := by
  intro sz
  refine va_MetF (cc := cc) (maxL := nL) (ret := ret) hy rfl ?_
  intro p e s m args below meth c s₁ B hml hv
  obtain ⟨rfl, hsz, hP, hK, hi, hN, hZ⟩ := hv
  have hts := atoms_spec (ws := Cond.code y cc nL ret :: wAll) B.pre
  have hfc := findClass_of_methodNamed B.named
  rw [hown] at hfc
  have hl := lv_entry argv (n := nL) hlen
  rw [lg_entry_eq]
  rw [hls] at hl
  subst hsz
  exact body p e s m _ below meth c (gA n ad s.heap.size) ⟨⟨B.exec, B.bytes, hml, hfc, hts⟩, hK, fun q h => Or.inr h, fun w h => List.mem_cons_of_mem _ h, hN⟩ hZ rfl B.returns B.notSynchronized s.heap [] _ hP (gD_of hi (fun k hk => Or.inl ⟨k, hk, rfl⟩)) va_S.rf hl
/-- its end -/
theorem g_raret (X : gX p m c cc nL s args Ts own D cy A) {rt : FieldType} (hr : meth.sig.returnType = some rt) (hrt : (∃ n, rt = .object n) ∨ ∃ t, rt = .array t) (hlocks : meth.locks = false) {n0 : Nat} {ad0 : Nat → Nat} {cz1 : Nat → (Nat → Int32) → va_E} {q : Nat} (hA : A = gA n0 ad0 s.heap.size) (hc : cells ≤ mc) (hs : slots ≤ ms) (hd : decode cc pc = .ok (.areturn, 1)) (he : ∀ k, k < n0 + 1 → eSame (cz k (ρ k)) (cz1 k (ρ' k))) : GW p l e R s m args below meth c (MQ below (va_Qr (fun _ : Unit => True) (fun _ a t => s.heap.size ≤ a ∧ va_P D vwCl (gWl (n0 + 1) (xAd ad0 n0 a) cz1 ρ') t.heap) A) args s mc ms A) nL D A (n0 + 1) (xAd ad0 n0 q) cz ρ cells slots pc ls [.ref q] := fun H locs la hP hD hS hl => W.widen hc hs (W.aret X.1.1 X.1.2.1 hr hrt (Or.inr ⟨q, rfl⟩) (fun t ht hW => ⟨⟨(), q, rfl, trivial, by
    have hq := gD_in hD (k := n0) (by omega)
    rw [show xAd ad0 n0 q n0 = q from if_pos rfl, hA] at hq
    refine hq.resolve_left (fun ⟨k, hk, e⟩ => ?_)
    have := gD_inj hD k n0 (by omega) (by omega) (by simp only [xAd]; rw [if_neg (by omega), if_pos trivial]; exact e.symm)
    omega, fun k x hx => by
    obtain ⟨hk, rfl⟩ := gWl_out hx
    rw [ht]
    exact (he k hk).at (hP k _ (gWl_get hk))⟩, hS.F ht⟩) hS.2.2 hd hlocks)
/-- a call of such a method -/
theorem g_ra (X : gX p m c cc nL s args Ts own D cy A) (hZ : zAO s) {cz1 : Nat → (Nat → Int32) → va_E} {ρ1 : gSt} (hM : gRA l y bytes maxL ret rm D cy n ad cz As ρ cz1 ρ1 mc ms) (hL : gLkS own index y bytes maxL ret nA) (hR : rm.cells = mc ∧ rm.slots = ms ∧ rm.frames + 1 ≤ R.frames ∧ 8 + (maxL + 11) + rm.locals ≤ R.locals) (hn : As.length = nA) (hst : st0 = As.reverse ++ rest) (hcat : (rest.map fun v => v.category).sum ≤ 8) (hd : decode cc pc = .ok (.invokestatic index, 3)) (hroom : cells + mc ≤ R.cells ∧ slots + ms ≤ R.slots) (kk : ∀ a, GW p l e R s m args below meth c Q nL D A (n + 1) (xAd ad n a) cz1 ρ1 (cells + mc) (slots + ms) (pc + 3) ls (.ref a :: rest)) : GW p l e R s m args below meth c Q nL D A n ad cz ρ cells slots pc ls st0 := by
  intro H locs la hP hD hS hl
  have hfree := gA_sub gSub_self hD hS X.2.2.1
  exact va_callr (va_runS X.1 (hM H.size) (gCwS X.1.2.2.2.2 X.2.2.2.1 hL hR) ⟨gPz_blind, fun U hU hW => ⟨rfl, by rw [hU], by rw [hU]; exact hP, va_K.moved hW.alike X.2.1, gD_inj hD, gNst_warm hW X.2.2.2.2, zAO.moved hW.alike hZ⟩⟩ rfl hn hl.1 hst (lv_room hcat) hd hroom) hS (fun q _ h => hfree q h) hfree (fun _ a t H1 locs1 ht hvm _ hB hz1 hk1 hS1 => kk a H1 locs1 la (ht ▸ hB.2) (gD_of (fun i j h1 h2 h3 => by
      have hlt : ∀ k, k < n → ad k < H.size := fun k hk => (hP k _ (gWl_get hk)).lt
      simp only [xAd] at h3
      by_cases q1 : i = n
      · by_cases q2 : j = n
        · rw [q1, q2]
        · rw [if_pos q1, if_neg q2] at h3
          have := hlt j (by omega)
          have := hB.1
          omega
      · by_cases q2 : j = n
        · rw [if_neg q1, if_pos q2] at h3
          have := hlt i (by omega)
          have := hB.1
          omega
        · rw [if_neg q1, if_neg q2] at h3
          exact gD_inj hD i j (by omega) (by omega) h3) (fun k hk => by
      simp only [xAd]
      by_cases q1 : k = n
      · rw [if_pos q1]
        exact X.2.2.1 _ (Nat.le_trans hS.1 hB.1)
      · rw [if_neg q1]
        exact gD_in hD (by omega))) hS1 hl)
end GG
