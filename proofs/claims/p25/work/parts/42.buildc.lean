/-! build: its contract, and a call of it -/
theorem i0_inx : Inx i0C 0 0 0 0 := ⟨⟨rfl, by omega, rfl, by omega, rfl, by omega, by omega, fun t ht => ⟨0, by unfold i0C; rw [if_neg (by omega)]; rfl, by omega, fun k hk => absurd hk (Nat.not_lt_zero k), fun q hq => by unfold i0C; rw [if_neg (by omega)]; rfl⟩, fun z hz => ⟨⟨0, by omega, by unfold i0C; rw [if_neg (by omega)]; rfl⟩, fun t ht => ⟨0, by omega, by unfold i0C; rw [if_neg (by omega)]; rfl⟩⟩, fun i hi => ⟨⟨0, by omega, rfl⟩, ⟨(show (-60 : Int32) ≤ 0 by decide), (show (0 : Int32) ≤ 60 by decide)⟩, Or.inl rfl, Or.inl rfl⟩, fun z h1 h2 t ht => by unfold i0C; rw [if_neg (by omega)]; rfl, fun z hz t h1 h2 => by unfold i0C; rw [if_neg (by omega)]; rfl⟩, fun z hz => ⟨0, by omega, by unfold i0C; rw [if_neg (by omega)]; rfl⟩, fun j hj => ⟨0, by omega, by unfold i0C; rw [if_neg (by omega)]; rfl⟩, ⟨20, by omega, rfl⟩, fun z h1 h2 => by unfold i0C; rw [if_neg (by omega)]; rfl, fun t h1 h2 => by unfold i0C; rw [if_neg (by omega)]; rfl⟩
def gPb (D : va_G) (cy : Nat → ClassId) (ad : Nat → Nat) (b L : Nat) (xs : Nat → Int32) (sz : Nat) : Array Value → State → Prop := va_Pc [.ref (ad 0), .ref b] (fun U => U.heap.size = sz ∧ va_P D vwCl (gWl 48 ad (cC ad cy) i0C) U.heap ∧ va_K D vwCl (gT cy) U ∧ gInj 48 ad ∧ gNst U ∧ gEnv U (gA 48 ad sz) ∧ zAO U ∧ va_X b L xs U U.heap ∧ b < sz ∧ ∀ k, k < 48 → ad k ≠ b)
theorem gPb_blind {D : va_G} {cy : Nat → ClassId} {ad : Nat → Nat} {b L sz : Nat} {xs : Nat → Int32} : FrameBlind (gPb D cy ad b L xs sz) := fun a U g mk q => by
  obtain ⟨q0, q1, q2, q3, q4, q6, q5, q7, q8, q9⟩ := q
  exact ⟨q0, q1, q2, va_K.moved (u := U) (U := U.calling g mk a) (Vm.Alike.refl U.vm) q3, q4, gNst_same (u := U) (U := U.calling g mk a) rfl q6, gEnv_same (U := U) (V := U.calling g mk a) rfl rfl q5, zAO.moved (u := U) (U := U.calling g mk a) (Vm.Alike.refl U.vm) q7, va_X.moved (u := U) (U := U.calling g mk a) (Vm.Alike.refl U.vm) q8, q9⟩
set_option maxRecDepth 10000 in
theorem c_L_build (l : Launch) (hl0 : l.stackTraces = false) (D : va_G) (cy : Nat → ClassId) (ad : Nat → Nat) (b L : Nat) (xs : Nat → Int32) (hLL : L ≤ 260) (sz : Nat) : Met l yL_build (Cond.code yL_build cL_build 6 (some (.object "StreetOrgansLaw$Sim")) :: wAll) { frames := 9, cells := 1000, slots := 5000, locals := 161 } (gPb D cy ad b L xs sz) (va_Qr (fun u : gU => u.1 0 = ad 0 ∧ Inx u.2.2.2.2 240 u.2.2.1 u.2.1 3 ∧ LnOK u.2.2.2.2 u.2.2.1 u.2.2.2.1) (fun u a t => a = u.1 48 ∧ actB D cy (gA 48 ad sz) u t) (gA 48 ad sz)) 1000 5000 (gA 48 ad sz) := by
  refine va_MetF (cc := cL_build) (maxL := 6) (ret := some (.object "StreetOrgansLaw$Sim")) (by decide +kernel) rfl ?_
  intro p e s m args below meth c s₁ B hml hv
  obtain ⟨rfl, hsz, hP, hK, hi, hN9, hE, hZ, hSX, hbl, hbk⟩ := hv
  have hts := atoms_spec (ws := Cond.code yL_build cL_build 6 (some (.object "StreetOrgansLaw$Sim")) :: wAll) B.pre
  have hfc := findClass_of_methodNamed B.named
  have hl := lv_entry [Value.ref (ad 0), .ref b] (n := 6) (Nat.le_of_ble_eq_true rfl)
  rw [lg_entry_eq]
  subst hsz
  have X : gX p m c cL_build 6 s ([Value.ref (ad 0), .ref b] : List Value).toArray (Cond.code yL_build cL_build 6 (some (.object "StreetOrgansLaw$Sim")) :: wAll) RL D cy (gA 48 ad s.heap.size) := ⟨⟨B.exec, B.bytes, hml, hfc, hts⟩, hK, fun q h => Or.inr h, fun w h => List.mem_cons_of_mem _ h, hN9⟩
  have hbA : ¬ gA 48 ad s.heap.size b := by
    rintro (⟨k, hk, e⟩ | h)
    · exact hbk k hk e.symm
    · omega
  refine (?_ : GW p l e { frames := 9, cells := 1000, slots := 5000, locals := 161 } s m ([Value.ref (ad 0), .ref b] : List Value).toArray below meth c (MQ below (va_Qr (fun u : gU => u.1 0 = ad 0 ∧ Inx u.2.2.2.2 240 u.2.2.1 u.2.1 3 ∧ LnOK u.2.2.2.2 u.2.2.1 u.2.2.2.1) (fun u a t => a = u.1 48 ∧ actB D cy (gA 48 ad s.heap.size) u t) (gA 48 ad s.heap.size)) ([Value.ref (ad 0), .ref b] : List Value).toArray s 1000 5000 (gA 48 ad s.heap.size)) 6 D (gA 48 ad s.heap.size) 48 ad (cC ad cy) i0C 0 0 0 [(0, .ref (ad 0)), (1, .ref b)] []) s.heap [] _ hP (gD_of hi (fun k hk => Or.inl ⟨k, hk, rfl⟩)) va_S.rf hl
  have hr := B.returns
  have hlk := B.notSynchronized
  clear hP hi hl hts hml hfc hN9
  refine g_toE ?_
  refine gE_new X ku_X4 tyX4 tyX4_ok kC_L_10 kN_X4 ki_X4 kv_X4 [.int 0, .int 0, .int 0, .null, .null, .null, .null, .null, .null, .null] (fun j hj => by rcases (show j = 0 ∨ j = 1 ∨ j = 2 ∨ j = 3 ∨ j = 4 ∨ j = 5 ∨ j = 6 ∨ j = 7 ∨ j = 8 ∨ j = 9 by omega) with rfl | rfl | rfl | rfl | rfl | rfl | rfl | rfl | rfl | rfl <;> rfl) ⟨Nat.le_of_ble_eq_true rfl, Nat.le_of_ble_eq_true rfl⟩ dL_build_0 (fun q => ?_)
  refine g_dup X dL_build_3 rfl ?_
  refine gE_ctorNZ X rfl (c_X4_init l D cy) hZ kM_L_95 rfl kj_X4_init ki_X4 kc_X4_init (by decide +kernel) ⟨rfl, rfl, Nat.le_of_ble_eq_true rfl, Nat.le_of_ble_eq_true rfl⟩ rfl (Nat.le_of_ble_eq_true rfl) dL_build_4 ⟨Nat.le_of_ble_eq_true rfl, Nat.le_of_ble_eq_true rfl⟩ (fun u hu => ?_)
  rw [← hu]
  refine g_astore_n X [(2, .ref (u 0)), (0, .ref (ad 0)), (1, .ref b)] dL_build_7 rfl (by omega) rfl ?_
  refine g_iconst X (v := 0) dL_build_8 (by decide) ?_
  refine g_istore_n X [(3, .int 0), (2, .ref (u 0)), (0, .ref (ad 0)), (1, .ref b)] dL_build_9 rfl (by omega) rfl ?_
  obtain ⟨ad', had⟩ : ∃ f : Nat → Nat, f = jF 48 ad u := ⟨_, rfl⟩
  have hC : ∀ k, k < 48 → ad' k = ad k := fun k hk => by rw [had]; exact jF_lo hk
  have hSm : ∀ j, ad' (48 + j) = u j := fun j => by rw [had]; exact jF_hi
  have h48 : ad' 48 = u 0 := hSm 0
  refine g_ren2 (n' := 48 + (8 + 0 + 0)) (ad' := ad') (cz' := cW ad' cy 0 0 (fun _ => 0)) (ρ' := wR 0 i0C i0C) (fun k => k) (fun k hk => ?_) (fun i j _ _ h => h) ?_
  · refine ⟨hk, ?_, ?_⟩
    · show ad' k = jA 48 (xAd ad 48 q) u k
      unfold jA
      by_cases h : k < 48
      · rw [if_pos h, hC k h]
        simp only [xAd]
        rw [if_neg (by omega)]
      · rw [if_neg h, ← hSm (k - 48)]
        congr 1
        omega
    · show eSm (jE 48 _ (fun k => cS u cy 0 0 (fun _ => 0) k (sR 0 i0C k)) k) _
      unfold jE
      by_cases h : k < 48
      · rw [if_pos h, cW_C h]
        show eSm (uE _ 48 _ k) _
        unfold uE
        rw [if_neg (by omega)]
        exact cC_cg hC h
      · rw [if_neg h]
        obtain ⟨j, rfl⟩ : ∃ j, k = 48 + j := ⟨k - 48, by omega⟩
        rw [cW_S, show 48 + j - 48 = j by omega, show aS ad' = u from funext hSm]
        exact eSm_rf rfl
  · refine g_ls (ls' := [(0, .ref (ad 0)), (1, .ref b), (2, .ref (u 0)), (3, .int 0)]) [2, 3, 1, 0] rfl ?_
    refine g_eqv (ls' := [(0, .ref (ad' 0)), (1, .ref b), (2, .ref (ad' 48)), (3, .int (nI 0))]) ?_ (by rw [hC 0 (by omega), h48]; rfl) rfl rfl rfl
    exact g_widen (k9 := 10 + 24 * 0) (n9 := 100 + 120 * 0) (Nat.le_of_ble_eq_true rfl) (Nat.le_of_ble_eq_true rfl) (build_loop (ad0 := ad) X hl0 hE hZ hSX hbl hbA hLL hr hlk 40 0 rfl ad' 0 0 (fun _ => 0) i0C (hC 0 (by omega)) i0_inx (fun t ht => absurd ht (Nat.not_lt_zero t)))
section BC
variable {p : Program} {l : Launch} {e : Env} {R : Room} {s : State} {m : MethodId} {args : Array Value} {below : List Frame} {meth : Method} {c : Code} {Q : State → Prop}
variable {cc : ByteArray} {nL : Nat} {Ts : List Cond} {own : String} {D : va_G} {cy : Nat → ClassId} {A : Nat → Prop}
variable {ad : Nat → Nat} {cells slots pc index : Nat} {ls : List (Nat × Value)} {rest : List Value}
theorem g_build (X : gX p m c cc nL s args Ts own D cy A) (hl0 : l.stackTraces = false) (hE : gEnv s A) (hZ : zAO s) {b L : Nat} {xs : Nat → Int32} (hX : va_X b L xs s s.heap) (hbl : b < s.heap.size) (hbA : ¬ A b) (hLL : L ≤ 260) (hL : gLkS own index yL_build cL_build 6 (some (.object "StreetOrgansLaw$Sim")) 2) (hR : ({ frames := 9, cells := 1000, slots := 5000, locals := 161 } : Room).frames + 1 ≤ R.frames ∧ 8 + (6 + 11) + ({ frames := 9, cells := 1000, slots := 5000, locals := 161 } : Room).locals ≤ R.locals) (hcat : (rest.map fun v => v.category).sum ≤ 8) (hd : decode cc pc = .ok (.invokestatic index, 3)) (hroom : cells + 1000 ≤ R.cells ∧ slots + 5000 ≤ R.slots) (kk : ∀ u : gU, u.1 0 = ad 0 → Inx u.2.2.2.2 240 u.2.2.1 u.2.1 3 → LnOK u.2.2.2.2 u.2.2.1 u.2.2.2.1 → GW p l e R s m args below meth c Q nL D A (48 + (8 + u.2.1 + u.2.2.1)) u.1 (cW u.1 cy u.2.1 u.2.2.1 u.2.2.2.1) (wR u.2.1 u.2.2.2.2 u.2.2.2.2) (cells + 1000) (slots + 5000) (pc + 3) ls (.ref (u.1 48) :: rest)) : GW p l e R s m args below meth c Q nL D A 48 ad (cC ad cy) i0C cells slots pc ls (.ref b :: .ref (ad 0) :: rest) := by
  intro H locs la hP hD hS hl
  have hfree := gA_sub gSub_self hD hS X.2.2.1
  refine va_callr (va_runS (As := [.ref (ad 0), .ref b]) X.1 (c_L_build l hl0 D cy ad b L xs hLL H.size) (gCwS X.1.2.2.2.2 X.2.2.2.1 hL ⟨rfl, rfl, hR⟩) ⟨gPb_blind, fun U hU hW => ⟨rfl, by rw [hU], by rw [hU]; exact hP, va_K.moved hW.alike X.2.1, gD_inj hD, gNst_warm hW X.2.2.2.2, gEnv_at hE hW hU hS hfree, zAO.moved hW.alike hZ, by rw [hU]; exact (hX.kept (hS.2.1 b hbl hbA)).moved hW.alike, Nat.lt_of_lt_of_le hbl hS.1, fun k hk e9 => hbA (e9 ▸ gD_in hD hk)⟩⟩ rfl rfl hl.1 rfl (lv_room hcat) hd hroom) hS (fun q _ h => hfree q h) hfree (fun u a t H1 locs1 ht hvm hw hB hz1 hk1 hS1 => ?_)
  obtain ⟨rfl, hP1, hD1⟩ := hB
  obtain ⟨h0, hX1, hLn1⟩ := hw
  rw [ht] at hP1
  exact kk u h0 hX1 hLn1 H1 locs1 la hP1 (gD_of (gD_inj hD1) (fun k hk => hfree _ (gD_in hD1 hk))) hS1 hl
end BC
