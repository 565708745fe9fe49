/-! Worlds told outright, laid out anew -/
def eSm (x y : va_E) : Prop := eSame x y ∨ ∃ (cA : ClassId) (len : Nat) (f f' : Nat → Int32), x = .inl (cA, len, .inl f) ∧ y = .inl (cA, len, .inl f') ∧ ∀ j, j < len → f j = f' j
theorem eSm.at {D : va_G} {cl : List vw_C} {q : Nat} {H : Heap} {x y : va_E} (h : eSm x y) (hx : va_at D cl (q, x) H) : va_at D cl (q, y) H := by
  rcases h with h | ⟨cA, len, f, f', rfl, rfl, h⟩
  · exact h.at hx
  · have hx : H[q]? = some (vp_cell cA (len, .inl f)) := hx
    show H[q]? = some (vp_cell cA (len, .inl f'))
    rw [hx, vp_cell_i, vp_cell_i]
    have : (fun j : Fin len => Value.int (f j)) = fun j : Fin len => Value.int (f' j) := funext fun j => by rw [h j.1 j.2]
    unfold arrV
    rw [this]
theorem eSm_rf {x y : va_E} (h : x = y) : eSm x y := Or.inl (Or.inl h)
theorem eSm_q {x y : va_E} {cA : ClassId} {len : Nat} {f f' : Nat → Option Nat} (h1 : x = .inl (cA, len, rfs f)) (h2 : y = .inl (cA, len, rfs f')) (h : ∀ j, j < len → f j = f' j) : eSm x y := Or.inl (Or.inr ⟨cA, len, f, f', h1, h2, h⟩)
theorem eSm_i {x y : va_E} {cA : ClassId} {len : Nat} {f f' : Nat → Int32} (h1 : x = .inl (cA, len, .inl f)) (h2 : y = .inl (cA, len, .inl f')) (h : ∀ j, j < len → f j = f' j) : eSm x y := Or.inr ⟨cA, len, f, f', h1, h2, h⟩
theorem gAR_x {cz : Nat → (Nat → Int32) → va_E} {ad : Nat → Nat} {n k len q lenx : Nat} {cA cB : ClassId} {tgt : Nat → Nat} (h : gAR cz ad cA k len tgt) (hk : k ≠ n) (ht : ∀ i, i < len → tgt i ≠ n) : gAR (xCz cz n cB lenx) (xAd ad n q) cA k len tgt := fun r => by
  obtain ⟨f, h1, h2⟩ := h r
  exact ⟨f, by simp only [xCz]; rw [if_neg hk]; exact h1, fun i hi => by rw [h2 i hi]; simp only [xAd]; rw [if_neg (ht i hi)]⟩
theorem cC_cg {ad ad' : Nat → Nat} {cy : Nat → ClassId} {k : Nat} {r : Nat → Int32} (h : ∀ j, j < 48 → ad' j = ad j) (hk : k < 48) : eSm (cC ad cy k r) (cC ad' cy k r) := by
  unfold cC
  by_cases h0 : k = 0
  · rw [if_pos h0, if_pos h0, h 1 (by omega), h 6 (by omega), h 11 (by omega), h 12 (by omega), h 13 (by omega)]
    exact eSm_rf rfl
  · rw [if_neg h0, if_neg h0]
    by_cases h1 : k = 1 ∨ k = 6
    · rw [if_pos h1, if_pos h1, h (k + 1) (by omega), h (k + 2) (by omega), h (k + 3) (by omega), h (k + 4) (by omega)]
      exact eSm_rf rfl
    · rw [if_neg h1, if_neg h1]
      by_cases h2 : k = 2 ∨ k = 3 ∨ k = 7 ∨ k = 8
      · rw [if_pos h2, if_pos h2]
        exact eSm_rf rfl
      · rw [if_neg h2, if_neg h2]
        by_cases h3 : k = 4 ∨ k = 5 ∨ k = 9 ∨ k = 10
        · rw [if_pos h3, if_pos h3]
          exact eSm_rf rfl
        · rw [if_neg h3, if_neg h3]
          by_cases h4 : k = 11
          · rw [if_pos h4, if_pos h4]
            exact eSm_q rfl rfl (fun j hj => by rw [h (14 + 3 * j) (by omega)])
          · rw [if_neg h4, if_neg h4]
            by_cases h5 : k = 12
            · rw [if_pos h5, if_pos h5]
              exact eSm_q rfl rfl (fun j hj => by rw [h (32 + 2 * j) (by omega)])
            · rw [if_neg h5, if_neg h5]
              by_cases h6 : k = 13
              · rw [if_pos h6, if_pos h6]
                exact eSm_rf rfl
              · rw [if_neg h6, if_neg h6]
                by_cases h7 : k < 32
                · rw [if_pos h7, if_pos h7]
                  by_cases h8 : (k - 14) % 3 = 0
                  · rw [if_pos h8, if_pos h8, h (k + 1) (by omega), h (k + 2) (by omega)]
                    exact eSm_rf rfl
                  · rw [if_neg h8, if_neg h8]
                    exact eSm_rf rfl
                · rw [if_neg h7, if_neg h7]
                  by_cases h8 : k % 2 = 0
                  · rw [if_pos h8, if_pos h8, h (k + 1) (by omega)]
                    exact eSm_rf rfl
                  · rw [if_neg h8, if_neg h8]
                    exact eSm_rf rfl
theorem cW_C {ad : Nat → Nat} {cy : Nat → ClassId} {S T k : Nat} {Ln : Nat → Nat} {ρ σ : gSt} (h : k < 48) : cW ad cy S T Ln k (wR S ρ σ k) = cC ad cy k (ρ k) := by
  unfold cW wR
  rw [jF_lo h, jF_lo h]
theorem cW_S {ad : Nat → Nat} {cy : Nat → ClassId} {S T j : Nat} {Ln : Nat → Nat} {ρ σ : gSt} : cW ad cy S T Ln (48 + j) (wR S ρ σ (48 + j)) = cS (aS ad) cy S T Ln j (sR S σ j) := by
  unfold cW wR
  rw [jF_hi, jF_hi]
theorem relay {cy : Nat → ClassId} {n0 S T : Nat} {adE ad ad' : Nat → Nat} {E : Nat → va_E} {Ln : Nat → Nat} {ρ σ : gSt} (g : Nat → Nat) (hgn : ∀ k, k < 48 + (8 + S + T) → g k < n0 ∧ ad' k = adE (g k))
    (hC : ∀ k, k < 48 → E (g k) = cC ad cy k (ρ k)) (hCa : ∀ k, k < 48 → ad' k = ad k)
    (h48 : E (g 48) = .inr (4, [.int (σ 0 7), .int (σ 0 8), .int (σ 0 9), .ref (ad' 49), .ref (ad' 50), .ref (ad' 51), .ref (ad' 52), .ref (ad' 53), .ref (ad' 54), .ref (ad' 55)]))
    (h49 : ∃ r, E (g 49) = .inl (cy 0, 12, .inl r) ∧ ∀ j, j < 12 → r j = σ 2 j) (h50 : ∃ r, E (g 50) = .inl (cy 0, 12, .inl r) ∧ ∀ j, j < 12 → r j = σ 3 j) (h51 : ∃ r, E (g 51) = .inl (cy 1, 12, .inl r) ∧ ∀ j, j < 12 → r j = σ 4 j) (h52 : ∃ r, E (g 52) = .inl (cy 1, 12, .inl r) ∧ ∀ j, j < 12 → r j = σ 5 j)
    (h53 : ∃ f, E (g 53) = .inl (cy 4, T, rfs f) ∧ ∀ i, i < T → f i = some (ad' (48 + (8 + S + i)))) (h54 : ∃ f, E (g 54) = .inl (cy 4, S, rfs f) ∧ ∀ i, i < S → f i = some (ad' (48 + (8 + i)))) (h55 : ∃ r, E (g 55) = .inl (cy 0, 7, .inl r) ∧ ∀ j, j < 7 → r j = σ 13 j)
    (hs : ∀ z, z < S → ∃ r, E (g (56 + z)) = .inl (cy 0, 9, .inl r) ∧ ∀ j, j < 9 → r j = sR S σ (8 + z) j) (ht : ∀ t, t < T → ∃ r, E (g (56 + S + t)) = .inl (cy 0, Ln t, .inl r) ∧ ∀ j, j < Ln t → r j = σ (15 + 3 * t) j) (hT6 : T ≤ 6) :
    ∀ k, k < 48 + (8 + S + T) → g k < n0 ∧ ad' k = adE (g k) ∧ eSm (cE E (g k) (z0 (g k))) (cW ad' cy S T Ln k (wR S ρ σ k)) := by
  intro k hk
  refine ⟨(hgn k hk).1, (hgn k hk).2, ?_⟩
  show eSm (E (g k)) _
  by_cases h1 : k < 48
  · rw [cW_C h1, hC k h1]
    exact cC_cg hCa h1
  · obtain ⟨j, rfl⟩ : ∃ j, k = 48 + j := ⟨k - 48, by omega⟩
    rw [cW_S]
    by_cases h8 : j < 8
    · rcases (show j = 0 ∨ j = 1 ∨ j = 2 ∨ j = 3 ∨ j = 4 ∨ j = 5 ∨ j = 6 ∨ j = 7 by omega) with rfl | rfl | rfl | rfl | rfl | rfl | rfl | rfl
      · exact eSm_rf h48
      · obtain ⟨r, e, h⟩ := h49; exact eSm_i e rfl h
      · obtain ⟨r, e, h⟩ := h50; exact eSm_i e rfl h
      · obtain ⟨r, e, h⟩ := h51; exact eSm_i e rfl h
      · obtain ⟨r, e, h⟩ := h52; exact eSm_i e rfl h
      · obtain ⟨f, e, h⟩ := h53; exact eSm_q e rfl h
      · obtain ⟨f, e, h⟩ := h54; exact eSm_q e rfl h
      · obtain ⟨r, e, h⟩ := h55; exact eSm_i e rfl h
    · by_cases h9 : j < 8 + S
      · obtain ⟨z, rfl⟩ : ∃ z, j = 8 + z := ⟨j - 8, by omega⟩
        obtain ⟨r, e, h⟩ := hs z (by omega)
        rw [lS_st (by omega)]
        exact eSm_i (by rw [show 48 + (8 + z) = 56 + z by omega]; exact e) rfl h
      · obtain ⟨t, rfl⟩ : ∃ t, j = 8 + S + t := ⟨j - (8 + S), by omega⟩
        obtain ⟨r, e, h⟩ := ht t (by omega)
        rw [lS_tu]
        exact eSm_i (by rw [show 48 + (8 + S + t) = 56 + S + t by omega]; exact e) rfl (fun i hi => by rw [rS_tu (by omega)]; exact h i hi)
section RY
variable {p : Program} {l : Launch} {e : Env} {R : Room} {s : State} {m : MethodId} {args : Array Value} {below : List Frame} {meth : Method} {c : Code} {Q : State → Prop}
variable {cc : ByteArray} {nL : Nat} {Ts : List Cond} {own : String} {D : va_G} {cy : Nat → ClassId} {A : Nat → Prop}
variable {n n' : Nat} {ad ad' : Nat → Nat} {cz cz' : Nat → (Nat → Int32) → va_E} {ρ ρ' : gSt} {cells slots pc : Nat} {ls ls' : List (Nat × Value)} {st st0 rest : List Value}
variable {y : MethodName} {rm : Room} {bytes : ByteArray} {maxL nA index mc ms : Nat} {ret : Option FieldType} {C : String} {Tf : u_T} {Nf ci : Nat} {As : List Value}
theorem g_ren2 (g : Nat → Nat) (hg : ∀ k, k < n' → g k < n ∧ ad' k = ad (g k) ∧ eSm (cz (g k) (ρ (g k))) (cz' k (ρ' k))) (hgi : ∀ i j, i < n' → j < n' → g i = g j → i = j) (kk : GW p l e R s m args below meth c Q nL D A n' ad' cz' ρ' cells slots pc ls st) : GW p l e R s m args below meth c Q nL D A n ad cz ρ cells slots pc ls st := fun H locs la hP hD hS hl => by
  refine kk H locs la (fun k q hq => ?_) (gD_of (fun i j h1 h2 h3 => ?_) (fun k hk => ?_)) hS hl
  · obtain ⟨hk, rfl⟩ := gWl_out hq
    obtain ⟨a1, a2, a3⟩ := hg k hk
    have := hP (g k) _ (gWl_get a1)
    rw [a2]
    exact a3.at this
  · rw [(hg i h1).2.1, (hg j h2).2.1] at h3
    exact hgi i j h1 h2 (gD_inj hD _ _ (hg i h1).1 (hg j h2).1 h3)
  · rw [(hg k hk).2.1]
    exact gD_in hD (hg k hk).1
/-- an object's reference field anew, in a world told outright or not -/
theorem g_stk {v v' : Value} (h : v = v') (kk : GW p l e R s m args below meth c Q nL D A n ad cz ρ cells slots pc ls (v' :: st)) : GW p l e R s m args below meth c Q nL D A n ad cz ρ cells slots pc ls (v :: st) := by rw [h]; exact kk
theorem g_stk2 {v v' w : Value} (h : v = v') (kk : GW p l e R s m args below meth c Q nL D A n ad cz ρ cells slots pc ls (w :: v' :: st)) : GW p l e R s m args below meth c Q nL D A n ad cz ρ cells slots pc ls (w :: v :: st) := by rw [h]; exact kk
end RY
/-- the contract of a constructor that makes rows of rows -/
def gMZ (l : Launch) (y : MethodName) (b : ByteArray) (nL : Nat) (rm : Room) (D : va_G) (cy : Nat → ClassId) (ci : Nat) (fs : List Value) (n' : Nat) (cz' : (Nat → Nat) → Nat → va_E) (mc ms : Nat) : Prop := ∀ q sz : Nat, Met l y (Cond.code y b nL none :: wAll) rm (va_Pc [.ref q] (fun U => U.heap.size = sz ∧ va_P D vwCl [(q, .inr (ci, fs))] U.heap ∧ va_K D vwCl (gT cy) U ∧ gNst U ∧ q < sz ∧ zAO U)) (va_Qv (fun u : Nat → Nat => u 0 = q) (fun u t => va_P D vwCl (gWl n' u (cE (cz' u)) z0) t.heap ∧ va_D (fun x => x = q ∨ sz ≤ x) (gWl n' u (cE (cz' u)) z0)) (fun x => x = q ∨ sz ≤ x)) mc ms (fun x => x = q ∨ sz ≤ x)
section CTZ
variable {p : Program} {l : Launch} {e : Env} {R : Room} {s : State} {m : MethodId} {args : Array Value} {below : List Frame} {meth : Method} {c : Code} {Q : State → Prop}
variable {cc : ByteArray} {nL : Nat} {Ts : List Cond} {own : String} {D : va_G} {cy : Nat → ClassId} {A : Nat → Prop}
variable {n : Nat} {ad : Nat → Nat} {cz : Nat → (Nat → Int32) → va_E} {ρ : gSt} {E : Nat → va_E} {cells slots pc : Nat} {ls ls' : List (Nat × Value)} {st st0 rest : List Value}
variable {y : MethodName} {rm : Room} {bytes : ByteArray} {maxL index mc ms : Nat} {C : String} {T : u_T} {N ci : Nat} {fs : List Value}
theorem gE_ctorNZ (X : gX p m c cc nL s args Ts own D cy A) {n0 n' : Nat} (hn0 : n = n0 + 1) {cz' : (Nat → Nat) → Nat → va_E} (hM : gMZ l y bytes maxL rm D cy ci fs n' cz' mc ms) (hZs : zAO s) {host : String} (hL : Cond.methodLinkNest own index y host ∈ gNsw) (hnm : y.name = "<init>") (hi : Cond.instanceMethod y ∈ wAll) (h4 : Cond.initialized y.cls ∈ wAll) (h5 : Cond.code y bytes maxL none ∈ wAll) (h6 : y.cls ≠ "java/lang/invoke/MethodHandle" ∧ y.cls ≠ "java/lang/invoke/VarHandle" ∧ (parseMethodDescriptor y.desc).map (fun d => d.parameters.length) = some 0) (hR : rm.cells = mc ∧ rm.slots = ms ∧ rm.frames + 1 ≤ R.frames ∧ 8 + (maxL + 11) + rm.locals ≤ R.locals) (hE : E n0 = .inr (ci, fs)) (hcat : (st.map fun v => v.category).sum ≤ 8) (hd : decode cc pc = .ok (.invokespecial index, 3)) (hroom : cells + mc ≤ R.cells ∧ slots + ms ≤ R.slots) (kk : ∀ u : Nat → Nat, u 0 = ad n0 → GW p l e R s m args below meth c Q nL D A (n0 + n') (jA n0 ad u) (cE (jE n0 E (cz' u))) z0 (cells + mc) (slots + ms) (pc + 3) ls (st)) : GW p l e R s m args below meth c Q nL D A (n) (ad) (cE (E)) z0 (cells) (slots) (pc) ls (.ref (ad n0) :: st) := fun H locs la hP hD hS hl => by
  have ht := X.1.2.2.2.2
  subst hn0
  have hA0 : A (ad n0) := gD_in hD (by omega)
  have hlt0 : ad n0 < H.size := (hP n0 _ (gWl_get (by omega))).lt
  refine va_callv (va_runIN (As := []) X.1 (hM (ad n0) H.size) ⟨gCwN ht X.2.2.2.1 X.2.2.2.2 hL h4 h5 h6 hR, hnm, ht _ (X.2.2.2.1 _ hi)⟩ ⟨fun a U g mk q => by obtain ⟨q0, q1, qP, qK, qN, qz, qA⟩ := q; exact ⟨q0, q1, qP, va_K.moved (u := U) (U := U.calling g mk a) (Vm.Alike.refl U.vm) qK, gNst_same (u := U) (U := U.calling g mk a) rfl qN, qz, zAO.moved (u := U) (U := U.calling g mk a) (Vm.Alike.refl U.vm) qA⟩, fun U hU hW => ⟨rfl, by rw [hU], ?_, va_K.moved hW.alike X.2.1, gNst_warm hW X.2.2.2.2, hlt0, zAO.moved hW.alike hZs⟩⟩ rfl rfl hl.1 rfl (lv_room hcat) hd hroom) hS (fun q hq h => ?_) (fun q h => ?_) (fun u t H1 locs1 hth hvm hw hB hz1 hk1 hS1 => ?_)
  · rw [hU]
    intro k q hq
    have hk0 : k = 0 := by
      rcases k with _ | k
      · rfl
      · simp at hq
    subst hk0
    cases hq
    have := hP n0 _ (gWl_get (by omega))
    simp only [cE] at this
    rw [hE] at this
    exact this
  · rcases h with rfl | h
    · exact hA0
    · omega
  · rcases h with rfl | h
    · exact hA0
    · exact X.2.2.1 _ (Nat.le_trans hS.1 h)
  · obtain ⟨hP1, hD1⟩ := hB
    rw [hth] at hP1
    have hne : ∀ k, k < n0 → ad k ≠ ad n0 := fun k hk h9 => by
      have := gD_inj hD k n0 (by omega) (by omega) h9
      omega
    have hbase : va_P D vwCl (gWl n0 ad (cE E) z0) H1 := by
      intro k q hq
      obtain ⟨hk, rfl⟩ := gWl_out hq
      have h := hP k _ (gWl_get (by omega))
      refine h.kept (hk1 _ h.lt ?_)
      rintro (h9 | h9)
      · exact hne k hk h9
      · have := h.lt
        exact absurd this (Nat.not_lt.mpr h9)
    have hPj := hbase.app hP1
    have hDn : va_D A (gWl n0 ad (cE E) z0) := gD_of (fun i j h1 h2 h3 => gD_inj hD i j (by omega) (by omega) h3) (fun k hk => gD_in hD (by omega))
    have hDu : va_D A (gWl n' u (cE (cz' u)) z0) := hD1.weaken (fun k q hq h9 => by
      rcases h9 with h9 | h9
      · rw [h9]; exact hA0
      · exact X.2.2.1 _ (Nat.le_trans hS.1 h9))
    have hDj := hDn.app hDu (fun i j x1 x2 h1 h2 h3 => by
      obtain ⟨hi9, rfl⟩ := gWl_out h1
      have h4 := hD1.2 j _ h2
      have h3 : ad i = x2.1 := h3
      rw [← h3] at h4
      rcases h4 with h4 | h4
      · exact hne i hi9 h4
      · have := (hP i _ (gWl_get (by omega))).lt
        exact absurd this (Nat.not_lt.mpr h4))
    rw [← gE_join] at hPj hDj
    exact kk u hw H1 locs1 la hPj hDj hS1 hl
theorem gMZ_of {n' : Nat} {cz' : (Nat → Nat) → Nat → va_E} (own : String) (hown : y.cls = own) (hy : plainFor y = true) (hlen : 1 ≤ nL) (body : ∀ (p : Program) (e : Env) (s : State) (m : MethodId) (args : Array Value) (below : List Frame) (meth : Method) (c : Code) (A : Nat → Prop) (q : Nat), A = (fun x => x = q ∨ s.heap.size ≤ x) → gX p m c cc nL s args (Cond.code y cc nL none :: wAll) own D cy A → meth.sig.returnType = none → meth.locks = false → meth.name = y.name → zAO s → GW p l e rm s m args below meth c (MQ below (va_Qv (fun u : Nat → Nat => u 0 = q) (fun u t => va_P D vwCl (gWl n' u (cE (cz' u)) z0) t.heap ∧ va_D (fun x => x = q ∨ s.heap.size ≤ x) (gWl n' u (cE (cz' u)) z0)) (fun x => x = q ∨ s.heap.size ≤ x)) args s mc ms (fun x => x = q ∨ s.heap.size ≤ x)) nL D A 1 (fun _ => q) (cE (fun _ => .inr (ci, fs))) z0 0 0 0 [(0, .ref q)] []) : gMZ l y cc nL rm D cy ci fs n' cz' mc ms := by
  intro q sz
  refine va_MetF (cc := cc) (maxL := nL) (ret := none) hy rfl ?_
  intro p e s m args below meth c s₁ B hml hv
  obtain ⟨rfl, hsz, hP, hK, hN, hq, hZ⟩ := hv
  have hts := atoms_spec (ws := Cond.code y cc nL none :: wAll) B.pre
  have hfc := findClass_of_methodNamed B.named
  rw [hown] at hfc
  have hl := lv_entry [Value.ref q] (n := nL) hlen
  rw [lg_entry_eq]
  subst hsz
  refine body p e s m _ below meth c (fun x => x = q ∨ s.heap.size ≤ x) q rfl ⟨⟨B.exec, B.bytes, hml, hfc, hts⟩, hK, fun q h => Or.inr h, fun w h => List.mem_cons_of_mem _ h, hN⟩ B.returns B.notSynchronized (name_of_methodNamed B.named B.method).1 hZ s.heap [] _ hP ?_ va_S.rf hl
  refine ⟨fun i j x1 x2 h1 h2 h3 => ?_, fun k x hx => ?_⟩
  · have a1 := (gWl_out h1).1
    have a2 := (gWl_out h2).1
    omega
  · obtain ⟨hk, rfl⟩ := gWl_out hx
    exact Or.inl rfl
theorem gE_nqA (X : gX p m c cc nL s args Ts own D cy A) (hz : zAO s) (len : Nat) (hlen : len < 2 ^ 20) (h1 : Cond.classLink own index "[I" ∈ wAll) (hroom : cells + 1 ≤ R.cells ∧ slots + len ≤ R.slots) (hd : decode cc pc = .ok (.anewarray index, 3)) (kk : ∀ q, GW p l e R s m args below meth c Q nL D A (n + 1) (xAd ad n q) (cE (uE E n (.inl (cy 4, len, rfs (fun _ => none))))) z0 (cells + 1) (slots + len) (pc + 3) ls (.ref (xAd ad n q n) :: st)) : GW p l e R s m args below meth c Q nL D A n ad (cE E) z0 cells slots pc ls (.int (nI len) :: st) := g_nqA X hz len hlen h1 hroom hd (fun q => by
  have e9 : xAd ad n q n = q := by simp [xAd]
  have := kk q
  rw [e9] at this
  exact this)
end CTZ
set_option maxRecDepth 4000 in
theorem c_X4_init (l : Launch) (D : va_G) (cy : Nat → ClassId) : gMZ l yX4_init cX4_init 1 { frames := 1, cells := 8, slots := 65, locals := 20 } D cy 4 [.int 0, .int 0, .int 0, .null, .null, .null, .null, .null, .null, .null] 8 (fun u k => cS u cy 0 0 (fun _ => 0) k (sR 0 i0C k)) 8 65 := by
  refine gMZ_of RX4 rfl (by decide +kernel) (Nat.le_of_ble_eq_true rfl) (fun p e s m args below meth c A q hA X hr hlk hnm hZ => ?_)
  refine g_aload_n X dX4_init_0 0 rfl rfl ?_
  refine g_obj X ko_X4 ko_i ko_c ⟨Nat.le_of_ble_eq_true rfl, Nat.le_of_ble_eq_true rfl⟩ dX4_init_1 ?_
  refine g_aload_n X dX4_init_4 0 rfl rfl ?_
  refine g_bipush X (v := nI 20) dX4_init_5 (by decide) ?_
  refine gE_put X 0 (by omega) ku_X4 tyX4 tyX4_ok nmX4 (fs := _) rfl kv_X4 1 (by omega) kg_X4_7 rfl (ty := .int) (by decide +kernel) rfl rfl (Nat.le_of_ble_eq_true rfl) dX4_init_7 ?_
  refine g_aload_n X dX4_init_10 0 rfl rfl ?_
  refine g_bipush X (v := nI 12) dX4_init_11 (by decide) ?_
  refine gE_newi X 12 (by omega) ka_int ⟨Nat.le_of_ble_eq_true rfl, Nat.le_of_ble_eq_true rfl⟩ dX4_init_13 (fun q1 => ?_)
  refine gE_put X 0 (by omega) ku_X4 tyX4 tyX4_ok nmX4 (fs := _) rfl kv_X4 3 (by omega) kg_X4_13 rfl (ty := .array .int) (by decide +kernel) rfl rfl (Nat.le_of_ble_eq_true rfl) dX4_init_15 ?_
  refine g_aload_n X dX4_init_18 0 rfl rfl ?_
  refine g_bipush X (v := nI 12) dX4_init_19 (by decide) ?_
  refine gE_newi X 12 (by omega) ka_int ⟨Nat.le_of_ble_eq_true rfl, Nat.le_of_ble_eq_true rfl⟩ dX4_init_21 (fun q2 => ?_)
  refine gE_put X 0 (by omega) ku_X4 tyX4 tyX4_ok nmX4 (fs := _) rfl kv_X4 4 (by omega) kg_X4_17 rfl (ty := .array .int) (by decide +kernel) rfl rfl (Nat.le_of_ble_eq_true rfl) dX4_init_23 ?_
  refine g_aload_n X dX4_init_26 0 rfl rfl ?_
  refine g_bipush X (v := nI 12) dX4_init_27 (by decide) ?_
  refine gE_newz X 12 (by omega) ka_bool ⟨Nat.le_of_ble_eq_true rfl, Nat.le_of_ble_eq_true rfl⟩ dX4_init_29 (fun q3 => ?_)
  refine gE_put X 0 (by omega) ku_X4 tyX4 tyX4_ok nmX4 (fs := _) rfl kv_X4 5 (by omega) kg_X4_20 rfl (ty := .array .boolean) (by decide +kernel) rfl rfl (Nat.le_of_ble_eq_true rfl) dX4_init_31 ?_
  refine g_aload_n X dX4_init_34 0 rfl rfl ?_
  refine g_bipush X (v := nI 12) dX4_init_35 (by decide) ?_
  refine gE_newz X 12 (by omega) ka_bool ⟨Nat.le_of_ble_eq_true rfl, Nat.le_of_ble_eq_true rfl⟩ dX4_init_37 (fun q4 => ?_)
  refine gE_put X 0 (by omega) ku_X4 tyX4 tyX4_ok nmX4 (fs := _) rfl kv_X4 6 (by omega) kg_X4_24 rfl (ty := .array .boolean) (by decide +kernel) rfl rfl (Nat.le_of_ble_eq_true rfl) dX4_init_39 ?_
  refine g_aload_n X dX4_init_42 0 rfl rfl ?_
  refine g_iconst X (v := nI 0) dX4_init_43 (by decide) ?_
  refine gE_nqA X hZ 0 (by omega) kC_X4_27 ⟨Nat.le_of_ble_eq_true rfl, Nat.le_of_ble_eq_true rfl⟩ dX4_init_44 (fun q5 => ?_)
  refine gE_put X 0 (by omega) ku_X4 tyX4 tyX4_ok nmX4 (fs := _) rfl kv_X4 7 (by omega) kg_X4_28 rfl (ty := .array (.array .int)) (by decide +kernel) rfl rfl (Nat.le_of_ble_eq_true rfl) dX4_init_47 ?_
  refine g_aload_n X dX4_init_50 0 rfl rfl ?_
  refine g_iconst X (v := nI 0) dX4_init_51 (by decide) ?_
  refine gE_nqA X hZ 0 (by omega) kC_X4_27 ⟨Nat.le_of_ble_eq_true rfl, Nat.le_of_ble_eq_true rfl⟩ dX4_init_52 (fun q6 => ?_)
  refine gE_put X 0 (by omega) ku_X4 tyX4 tyX4_ok nmX4 (fs := _) rfl kv_X4 8 (by omega) kg_X4_32 rfl (ty := .array (.array .int)) (by decide +kernel) rfl rfl (Nat.le_of_ble_eq_true rfl) dX4_init_55 ?_
  refine g_aload_n X dX4_init_58 0 rfl rfl ?_
  refine g_bipush X (v := nI 7) dX4_init_59 (by decide) ?_
  refine gE_newi X 7 (by omega) ka_int ⟨Nat.le_of_ble_eq_true rfl, Nat.le_of_ble_eq_true rfl⟩ dX4_init_61 (fun q7 => ?_)
  refine gE_put X 0 (by omega) ku_X4 tyX4 tyX4_ok nmX4 (fs := _) rfl kv_X4 9 (by omega) kg_X4_35 rfl (ty := .array .int) (by decide +kernel) rfl rfl (Nat.le_of_ble_eq_true rfl) dX4_init_63 ?_
  refine gE_ret X hr hlk q hA (xAd (xAd (xAd (xAd (xAd (xAd (xAd (fun _ => q) 1 q1) 2 q2) 3 q3) 4 q4) 5 q5) 6 q6) 7 q7) rfl 8 (fun k => k) (fun k hk => ?_) (fun i j _ _ h => h) (Nat.le_of_ble_eq_true rfl) (Nat.le_of_ble_eq_true rfl) dX4_init_66
  rcases (show k = 0 ∨ k = 1 ∨ k = 2 ∨ k = 3 ∨ k = 4 ∨ k = 5 ∨ k = 6 ∨ k = 7 by omega) with rfl | rfl | rfl | rfl | rfl | rfl | rfl | rfl
  all_goals first | exact ⟨Nat.le_of_ble_eq_true rfl, rfl, Or.inl rfl⟩ | exact ⟨Nat.le_of_ble_eq_true rfl, rfl, Or.inr ⟨_, 0, _, _, rfl, rfl, fun j hj => absurd hj (Nat.not_lt_zero j)⟩⟩
