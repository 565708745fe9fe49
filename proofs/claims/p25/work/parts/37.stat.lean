/-! below, cell, more, copyOf -/
theorem nI_bits (x : Int32) : nI x.toBitVec.toNat = x := Int32.toBitVec_inj.mp (BitVec.eq_of_toNat_eq (pk_tn x.toBitVec.isLt))
theorem and31 (x : Int32) : ∃ m : Nat, m < 2 ^ 31 ∧ x &&& 2147483647 = nI m := by
  refine ⟨x.toBitVec.toNat % 2 ^ 31, Nat.mod_lt _ (by decide), ?_⟩
  have h := pk_andN (n := x.toBitVec.toNat) x.toBitVec.isLt (m := 2147483647) 31 (by decide)
  rw [nI_bits] at h
  exact h
theorem and127 (x : Int32) : ∃ m : Nat, m ≤ 127 ∧ x &&& 127 = nI m := by
  refine ⟨x.toBitVec.toNat % 2 ^ 7, by have := Nat.mod_lt x.toBitVec.toNat (show 0 < 2 ^ 7 by decide); omega, ?_⟩
  have h := pk_andN (n := x.toBitVec.toNat) x.toBitVec.isLt (m := 127) 7 (by decide)
  rw [nI_bits] at h
  exact h
section ST
variable {p : Program} {l : Launch} {e : Env} {R : Room} {s : State} {m : MethodId} {args : Array Value} {below : List Frame} {meth : Method} {c : Code} {Q : State → Prop}
variable {cc : ByteArray} {nL : Nat} {Ts : List Cond} {own : String} {D : va_G} {cy : Nat → ClassId} {A : Nat → Prop}
variable {n n' : Nat} {ad ad' : Nat → Nat} {cz cz' : Nat → (Nat → Int32) → va_E} {ρ ρ' : gSt} {cells slots pc : Nat} {ls ls' : List (Nat × Value)} {st st0 rest : List Value}
variable {y : MethodName} {rm : Room} {bytes : ByteArray} {maxL nA index mc ms : Nat} {ret : Option FieldType} {C : String} {Tf : u_T} {Nf ci : Nat} {As : List Value}
theorem c_L_below (l : Launch) (D : va_G) (cy : Nat → ClassId) (ad : Nat → Nat) (cz : Nat → (Nat → Int32) → va_E) (ρ : gSt) (x : Int32) (b : Nat) (hb : 0 < b) (hb31 : b < 2 ^ 31) : gMI l yL_below cL_below 2 (some .int) { frames := 0, cells := 0, slots := 0, locals := 0 } D cy 0 ad cz [.int x, .int (nI b)] ρ (fun r _ => ∃ k, k < b ∧ r = nI k) 0 0 := by
  refine gMI_of (ls := [(0, .int x), (1, .int (nI b))]) RL rfl (by decide +kernel) (Nat.le_of_ble_eq_true rfl) rfl ?_
  intro p e s m args below meth c A X hr hlk hnm
  obtain ⟨y, hy, ey⟩ := and31 x
  refine g_iload_n X dL_below_0 0 rfl rfl ?_
  refine g_ldc X kK_L_7 dL_below_1 ?_
  refine g_iand X dL_below_3 ?_
  rw [ey]
  refine g_iload_n X dL_below_4 1 rfl rfl ?_
  refine g_irem X dL_below_5 (fun h => by have := (nI_eq (b := 0) hb31 (by omega)).mp h; omega) ?_
  rw [pk_rem hy hb hb31]
  exact g_iret X hr hlk (by omega) (by omega) dL_below_6 ⟨_, Nat.mod_lt _ hb, rfl⟩
/-- a number below b -/
theorem g_below (X : gX p m c cc nL s args Ts own D cy A) (b : Nat) {x : Int32} (hb : 0 < b) (hb31 : b < 2 ^ 31) (hL : gLkS own index yL_below cL_below 2 (some .int) 2) (hR : 1 ≤ R.frames ∧ 21 ≤ R.locals) (hcat : (rest.map fun v => v.category).sum ≤ 8) (hd : decode cc pc = .ok (.invokestatic index, 3)) (hroom : cells ≤ R.cells ∧ slots ≤ R.slots) (kk : ∀ k, k < b → GW p l e R s m args below meth c Q nL D A n ad cz ρ cells slots (pc + 3) ls (.int (nI k) :: rest)) : GW p l e R s m args below meth c Q nL D A n ad cz ρ cells slots pc ls (.int (nI b) :: .int x :: rest) := by
  refine g_mcallSi_at X 0 (n' := 0) (ad' := ad) (cz' := cz) (c_L_below l D cy ad cz _ x b hb hb31) hL ⟨rfl, rfl, by show 0 + 1 ≤ _; omega, by show 8 + (2 + 11) + 0 ≤ _; omega⟩ ⟨Nat.zero_le _, fun j hj => absurd hj (Nat.not_lt_zero j)⟩ rfl rfl hcat hd ⟨by omega, by omega⟩ (fun r ρ1 h => ?_)
  obtain ⟨k, hk, rfl⟩ := h
  refine g_congr (fun j hj => ?_) (kk k hk)
  simp only [gBack]
  rw [if_neg (by omega)]
theorem g_slen (X : gX p m c cc nL s args Ts own D cy A) {b L : Nat} {xs : Nat → Int32} (hX : va_X b L xs s s.heap) (hbl : b < s.heap.size) (hbA : ¬ A b) (hd : decode cc pc = .ok (.arraylength, 1)) (kk : GW p l e R s m args below meth c Q nL D A n ad cz ρ cells slots (pc + 1) ls (.int (nI L) :: st)) : GW p l e R s m args below meth c Q nL D A n ad cz ρ cells slots pc ls (.ref b :: st) := fun H locs la hP hD hS hl => va_slen X.1.1 X.1.2.1 hX hbl hbA hS hd (kk H locs la hP hD hS hl)
theorem g_sld (X : gX p m c cc nL s args Ts own D cy A) {b L k : Nat} {xs : Nat → Int32} (hX : va_X b L xs s s.heap) (hbl : b < s.heap.size) (hbA : ¬ A b) (hk : k < L) (hL : L < 2 ^ 31) (hd : decode cc pc = .ok (.iaload, 1)) (kk : ∀ r, GW p l e R s m args below meth c Q nL D A n ad cz ρ cells slots (pc + 1) ls (.int r :: st)) : GW p l e R s m args below meth c Q nL D A n ad cz ρ cells slots pc ls (.int (nI k) :: .ref b :: st) := fun H locs la hP hD hS hl => va_sld X.1.1 X.1.2.1 hX hbl hbA hS (vp_in_nI hk hL) hd (kk _ H locs la hP hD hS hl)
def gCP (D : va_G) (cy : Nat → ClassId) (b L : Nat) (xs : Nat → Int32) (k sz : Nat) : Array Value → State → Prop := va_Pc [.ref b, .int (nI k)] (fun U => U.heap.size = sz ∧ va_K D vwCl (gT cy) U ∧ gNst U ∧ va_X b L xs U U.heap ∧ b < sz)
theorem gCP_blind {b L k sz : Nat} {xs : Nat → Int32} : FrameBlind (gCP D cy b L xs k sz) := fun a U g mk q => by
  obtain ⟨q0, q1, q2, q3, q4, q5⟩ := q
  exact ⟨q0, q1, va_K.moved (u := U) (U := U.calling g mk a) (Vm.Alike.refl U.vm) q2, gNst_same (u := U) (U := U.calling g mk a) rfl q3, va_X.moved (u := U) (U := U.calling g mk a) (Vm.Alike.refl U.vm) q4, q5⟩
theorem c_L_cell (l : Launch) (D : va_G) (cy : Nat → ClassId) (b L : Nat) (xs : Nat → Int32) (k : Nat) (hk : k < 2 ^ 20) (hL : L ≤ 260) (sz : Nat) : Met l yL_cell (Cond.code yL_cell cL_cell 2 (some .int) :: wAll) { frames := 0, cells := 0, slots := 0, locals := 0 } (gCP D cy b L xs k sz) (va_Qi (fun (_ : Int32) (_ : gSt) => True) (gB D 0 (fun _ => 0) (fun _ _ => .inr (0, []))) (fun q => sz ≤ q)) 0 0 (fun q => sz ≤ q) := by
  refine va_MetF (cc := cL_cell) (maxL := 2) (ret := some .int) (by decide +kernel) rfl ?_
  intro p e s m args below meth c s₁ B hml hv
  obtain ⟨rfl, hsz, hK, hN, hX, hbl⟩ := hv
  have hts := atoms_spec (ws := Cond.code yL_cell cL_cell 2 (some .int) :: wAll) B.pre
  have hfc := findClass_of_methodNamed B.named
  have hl := lv_entry [Value.ref b, .int (nI k)] (n := 2) (Nat.le_of_ble_eq_true rfl)
  rw [lg_entry_eq]
  subst hsz
  have X : gX p m c cL_cell 2 s ([Value.ref b, .int (nI k)] : List Value).toArray (Cond.code yL_cell cL_cell 2 (some .int) :: wAll) RL D cy (fun q => s.heap.size ≤ q) := ⟨⟨B.exec, B.bytes, hml, hfc, hts⟩, hK, fun q h => h, fun w h => List.mem_cons_of_mem _ h, hN⟩
  have hbA : ¬ s.heap.size ≤ b := Nat.not_le.mpr hbl
  have G : GW p l e { frames := 0, cells := 0, slots := 0, locals := 0 } s m ([Value.ref b, .int (nI k)] : List Value).toArray below meth c (MQ below (va_Qi (fun (_ : Int32) (_ : gSt) => True) (gB D 0 (fun _ => 0) (fun _ _ => .inr (0, []))) (fun q => s.heap.size ≤ q)) ([Value.ref b, .int (nI k)] : List Value).toArray s 0 0 (fun q => s.heap.size ≤ q)) 2 D (fun q => s.heap.size ≤ q) 0 (fun _ => 0) (fun _ _ => .inr (0, [])) z0 0 0 0 [(0, .ref b), (1, .int (nI k))] [] := by
    refine g_iload_n X dL_cell_0 1 rfl rfl ?_
    refine g_aload_n X dL_cell_1 0 rfl rfl ?_
    refine g_slen X hX hbl hbA dL_cell_2 ?_
    refine g_icmp_geN X k L 12 (by omega) (by omega) dL_cell_3 (by decide) (fun h => ?_) (fun h => ?_)
    · refine g_ldc X kK_L_8 dL_cell_12 ?_
      refine g_iload_n X dL_cell_14 1 rfl rfl ?_
      refine g_iconst X (v := 3) dL_cell_15 (by decide) ?_
      refine g_iadd X dL_cell_16 ?_
      refine g_imul X dL_cell_17 ?_
      exact g_iret X B.returns B.notSynchronized (by omega) (by omega) dL_cell_18 trivial
    · refine g_aload_n X dL_cell_6 0 rfl rfl ?_
      refine g_iload_n X dL_cell_7 1 rfl rfl ?_
      refine g_sld X hX hbl hbA h (by omega) dL_cell_8 (fun r => ?_)
      refine g_goto X 18 dL_cell_9 (by decide) ?_
      exact g_iret X B.returns B.notSynchronized (by omega) (by omega) dL_cell_18 trivial
  exact G s.heap [] _ (fun k q hq => absurd (gWl_out hq).1 (Nat.not_lt_zero _)) ⟨fun i j p1 p2 h1 => absurd (gWl_out h1).1 (Nat.not_lt_zero _), fun k q hq => absurd (gWl_out hq).1 (Nat.not_lt_zero _)⟩ va_S.rf hl
/-- a cell of the script, or a number in its place -/
theorem g_cell (X : gX p m c cc nL s args Ts own D cy A) {b L k : Nat} {xs : Nat → Int32} (hX : va_X b L xs s s.heap) (hbl : b < s.heap.size) (hbA : ¬ A b) (hk : k < 2 ^ 20) (hLL : L ≤ 260) (hL : gLkS own index yL_cell cL_cell 2 (some .int) 2) (hR : 1 ≤ R.frames ∧ 21 ≤ R.locals) (hcat : (rest.map fun v => v.category).sum ≤ 8) (hd : decode cc pc = .ok (.invokestatic index, 3)) (hroom : cells ≤ R.cells ∧ slots ≤ R.slots) (kk : ∀ r, GW p l e R s m args below meth c Q nL D A n ad cz ρ cells slots (pc + 3) ls (.int r :: rest)) : GW p l e R s m args below meth c Q nL D A n ad cz ρ cells slots pc ls (.int (nI k) :: .ref b :: rest) := by
  intro H locs la hP hD hS hl
  exact va_calli (va_runS (As := [.ref b, .int (nI k)]) X.1 (c_L_cell l D cy b L xs k hk hLL H.size) (gCwS X.1.2.2.2.2 X.2.2.2.1 hL ⟨rfl, rfl, by show 0 + 1 ≤ _; omega, by show 8 + (2 + 11) + 0 ≤ _; omega⟩) ⟨gCP_blind, fun U hU hW => ⟨rfl, by rw [hU], va_K.moved hW.alike X.2.1, gNst_warm hW X.2.2.2.2, by rw [hU]; exact (hX.kept (hS.2.1 b hbl hbA)).moved hW.alike, Nat.lt_of_lt_of_le hbl hS.1⟩⟩ rfl rfl hl.1 rfl (lv_room hcat) hd ⟨by omega, by omega⟩) hS (fun q h1 h2 => absurd h1 (Nat.not_lt.mpr h2)) (fun q h => X.2.2.1 _ (Nat.le_trans hS.1 h)) (fun r u t H1 locs1 ht hvm hw hB hz1 hk1 hS1 => kk r H1 locs1 la (hP.kept (fun k x hx => hk1 x.1 ((hP k x hx).lt) (Nat.not_le.mpr ((hP k x hx).lt)))) hD hS1 hl)

theorem va_up_st {ad : Nat → Nat} {tgt : Nat → Nat} {i : Nat} : va_up (fun j => if j < i then some (ad (tgt j)) else none) i (some (ad (tgt i))) = fun j => if j < i + 1 then some (ad (tgt j)) else none := by
  funext j
  simp only [va_up]
  by_cases h : j = i
  · subst h
    rw [if_pos rfl, if_pos (by omega)]
  · rw [if_neg h]
    by_cases q : j < i
    · rw [if_pos q, if_pos (by omega)]
    · rw [if_neg q, if_neg (by omega)]
theorem c_X4_more (l : Launch) (D : va_G) (cy : Nat → ClassId) (n : Nat) (ad : Nat → Nat) (cz : Nat → (Nat → Int32) → va_E) (ρ : gSt) (kA kO L lo : Nat) (tgt ln : Nat → Nat) (hkA : kA < n) (hkO : kO < n) (hF : gAR cz ad (cy 4) kA L tgt) (ht : ∀ i, i < L → tgt i < n ∧ gAI cz (cy 0) (tgt i) (ln i)) (hO : gAI cz (cy 0) kO lo) (hL : L ≤ 8) : gRA l yX4_more cX4_more 4 (some (.array (.array .int))) { frames := 0, cells := 1, slots := 10, locals := 0 } D cy n ad cz [.ref (ad kA), .ref (ad kO)] ρ (xEz cz n (.inl (cy 4, L + 1, rfs (fun j => if j < L then some (ad (tgt j)) else some (ad kO))))) ρ 1 10 := by
  refine gRA_of (ls := [(0, .ref (ad kA)), (1, .ref (ad kO))]) RX4 rfl (by decide +kernel) (Nat.le_of_ble_eq_true rfl) rfl ?_
  intro p e s m args below meth c X0 X hZ HA hr hlk
  refine g_aload_n X dX4_more_0 0 rfl rfl ?_
  refine g_alen (t0 := 4) X kA hkA (gAR.ln hF) rfl dX4_more_1 ?_
  refine g_iconst X (v := 1) dX4_more_2 (by decide) ?_
  refine g_iadd X dX4_more_3 ?_
  rw [nI_1]
  refine g_nqA X hZ (L + 1) (by omega) kC_X4_27 ⟨by show 0 + 1 ≤ 1; omega, by show 0 + (L + 1) ≤ 10; omega⟩ dX4_more_4 (fun q => ?_)
  have eA : xAd ad n q kA = ad kA := if_neg (by omega)
  have eO : xAd ad n q kO = ad kO := if_neg (by omega)
  have eN : xAd ad n q n = q := if_pos rfl
  have eT : ∀ i, i < L → xAd ad n q (tgt i) = ad (tgt i) := fun i hi => if_neg (by have := (ht i hi).1; omega)
  refine g_astore_n X [(2, .ref _), (0, .ref _), (1, .ref _)] dX4_more_7 rfl (by decide) rfl ?_
  refine g_iconst X (v := 0) dX4_more_8 (by decide) ?_
  refine g_istore_n X [(3, .int _), (2, .ref _), (0, .ref _), (1, .ref _)] dX4_more_9 rfl (by decide) rfl ?_
  refine g_eqv (ls' := [(3, .int (nI 0)), (2, .ref (xAd ad n q n)), (0, .ref (xAd ad n q kA)), (1, .ref (xAd ad n q kO))]) ?_ (by rw [eA, eO, eN]; rfl) rfl rfl rfl
  refine g_loopZ (fun i => xEz cz n (.inl (cy 4, L + 1, rfs (fun j => if j < i then some (ad (tgt j)) else none)))) (fun i => [(3, .int (nI i)), (2, .ref (xAd ad n q n)), (0, .ref (xAd ad n q kA)), (1, .ref (xAd ad n q kO))]) L ?_ rfl (fun i hi ih => ?_)
  · congr 4
  have hF2 : ∀ x, gAR (xEz cz n x) (xAd ad n q) (cy 4) kA L tgt := fun x => gAR_e hF (by omega) (fun i hi => by have := (ht i hi).1; omega)
  refine g_iload_n X dX4_more_10 0 rfl rfl ?_
  refine g_aload_n X dX4_more_11 2 rfl rfl ?_
  refine g_alen (t0 := 4) X kA (by omega) (gAR.ln (hF2 _)) rfl dX4_more_12 ?_
  refine g_icmp_geN X i L 28 (by omega) (by omega) dX4_more_13 (by decide) (fun h => ?_) (fun h => ?_)
  · obtain rfl : i = L := by omega
    refine g_aload_n X dX4_more_28 1 rfl rfl ?_
    refine g_aload_n X dX4_more_29 2 rfl rfl ?_
    refine g_alen (t0 := 4) X kA (by omega) (gAR.ln (hF2 _)) rfl dX4_more_30 ?_
    refine g_aload_n X dX4_more_31 3 rfl rfl ?_
    refine g_astA X hZ n kO i (len := i + 1) (lo := lo) (by omega) (by omega) xEz_at (gAI_e hO (by omega)) (by omega) (by omega) dX4_more_32 ?_
    rw [xEz_xEz, eO]
    refine g_aload_n X dX4_more_33 1 rfl rfl ?_
    rw [eN]
    refine g_raret X hr (Or.inr ⟨_, rfl⟩) hlk HA (by show 0 + 1 ≤ 1; omega) (by show 0 + (i + 1) ≤ 10; omega) dX4_more_34 (fun k hk => ?_)
    by_cases hk9 : k = n
    · subst hk9
      rw [xEz_at, xEz_at]
      refine Or.inr ⟨_, _, _, _, rfl, rfl, fun j hj => ?_⟩
      simp only [va_up]
      by_cases q1 : j = i
      · rw [if_pos q1, if_neg (by omega)]
      · rw [if_neg q1, if_pos (by omega), if_pos (by omega)]
    · rw [xEz_ne hk9, xEz_ne hk9]
      exact Or.inl rfl
  · refine g_aload_n X dX4_more_16 1 rfl rfl ?_
    refine g_iload_n X dX4_more_17 0 rfl rfl ?_
    refine g_aload_n X dX4_more_18 2 rfl rfl ?_
    refine g_iload_n X dX4_more_19 0 rfl rfl ?_
    refine g_aaldA X kA i (by omega) (hF2 _) rfl (by omega) (by omega) dX4_more_20 ?_
    refine g_astA X hZ n (tgt i) i (len := L + 1) (lo := ln i) (by omega) (by have := (ht i (by omega)).1; omega) xEz_at (gAI_e (ht i (by omega)).2 (by have := (ht i (by omega)).1; omega)) (by omega) (by omega) dX4_more_21 ?_
    rw [xEz_xEz, eT i (by omega), va_up_st]
    refine g_iincN X i 3 [(3, .int _), (2, .ref _), (0, .ref _), (1, .ref _)] 0 dX4_more_22 rfl (by decide) rfl ?_
    refine g_goto X 10 dX4_more_25 (by decide) ?_
    exact ih (by omega)
theorem g_copyN (X : gX p m c cc nL s args Ts own D cy A) (k1 k2 mm len1 len2 : Nat) (hk1 : k1 < n) (hk2 : k2 < n) {index : Nat} (hw1 : Cond.methodLink own index arraycopyName ∈ wAll) (hw2 : Cond.native arraycopyName ∈ wAll) (hw3 : Cond.static arraycopyName ∈ wAll) (hw4 : Cond.initialized "java/lang/System" ∈ wAll) (h1 : gAI cz (cy 0) k1 len1) (h2 : gAI cz (cy 0) k2 len2) (hm1 : mm ≤ len1) (hm2 : mm ≤ len2) (hm : mm < 2 ^ 20) (hR : 1 ≤ R.frames ∧ (st.map fun v => v.category).sum + (nativeFrameWords "java/lang/System" "arraycopy" 5 + 11) ≤ R.locals) (hd : decode cc pc = .ok (.invokestatic index, 3)) (kk : ∀ ρ1, ρ1 = up1 ρ k2 (fun j => if j < mm then ρ k1 j else ρ k2 j) → GW p l e R s m args below meth c Q nL D A n ad cz ρ1 cells slots (pc + 3) ls st) : GW p l e R s m args below meth c Q nL D A n ad cz ρ cells slots pc ls (.int (nI mm) :: .int 0 :: .ref (ad k2) :: .int 0 :: .ref (ad k1) :: st) := fun H locs la hP hD hS hl => by
  have em : (nI mm).toNatClampNeg = mm := nI_clamp (by omega)
  have ez : (0 : Int32).toNatClampNeg = 0 := rfl
  refine va_copyi X.1.1 X.1.2.1 (X.1.2.2.1.trans hl.1.symm) X.1.2.2.2.1 (X.1.2.2.2.2 _ (X.2.2.2.1 _ hw1)) (X.1.2.2.2.2 _ (X.2.2.2.1 _ hw2)) (X.1.2.2.2.2 _ (X.2.2.2.1 _ hw3)) (X.1.2.2.2.2 _ (X.2.2.2.1 _ hw4)) X.2.1 hP hD hS k1 k2 0 0 ((gWl_get hk1).trans (by rw [h1 (ρ k1)])) ((gWl_get hk2).trans (by rw [h2 (ρ k2)])) rfl rfl rfl (by decide) (by decide) (fun h => nI_pos (show mm < 2 ^ 31 by omega) h) (by rw [em, ez]; omega) (by rw [em, ez]; omega) (fun i _ => rfl) hR.1 hR.2 hd (fun H1 locs1 hP1 hD1 hS1 => ?_)
  have e8 : va_cpy (ρ k1) (ρ k2) (0 : Int32).toNatClampNeg (0 : Int32).toNatClampNeg (nI mm).toNatClampNeg = fun j => if j < mm then ρ k1 j else ρ k2 j := by
    rw [em]
    funext j
    show (if 0 ≤ j ∧ j < 0 + mm then ρ k1 (0 + (j - 0)) else ρ k2 j) = _
    by_cases hj : j < mm
    · rw [if_pos ⟨Nat.zero_le _, by omega⟩, if_pos hj, Nat.sub_zero, Nat.zero_add]
    · rw [if_neg (by omega), if_neg hj]
  rw [e8, gWl_set hk2 (h2 _).symm] at hP1 hD1
  exact kk _ rfl H1 locs1 la hP1 hD1 hS1 hl
theorem c_copyOf (l : Launch) (D : va_G) (cy : Nat → ClassId) (n : Nat) (ad : Nat → Nat) (cz : Nat → (Nat → Int32) → va_E) (ρ : gSt) (k0 L : Nat) (hk0 : k0 < n) (hF : gAI cz (cy 0) k0 L) (hL : L < 16) : gRA l yJ7_copyOf_59c91 cJ7_copyOf_59c91 3 (some (.array .int)) { frames := 1, cells := 1, slots := 20, locals := 60 } D cy n ad cz [.ref (ad k0), .int (nI (L + 1))] ρ (xCz cz n (cy 0) (L + 1)) (up1 ρ n (fun j => if j < L then ρ k0 j else 0)) 1 20 := by
  refine gRA_of (ls := [(0, .ref (ad k0)), (1, .int (nI (L + 1)))]) RJ7 rfl (by decide +kernel) (Nat.le_of_ble_eq_true rfl) rfl ?_
  intro p e s m args below meth c X0 X hZ HA hr hlk
  refine g_iload_n X dJ7_copyOf_59c91_0 1 rfl rfl ?_
  refine g_aload_n X dJ7_copyOf_59c91_1 0 rfl rfl ?_
  refine g_alen (t0 := 0) X k0 hk0 (gAI.ln hF) rfl dJ7_copyOf_59c91_2 ?_
  refine g_icmp_neN X (L + 1) L 14 (by omega) (by omega) dJ7_copyOf_59c91_3 (by decide) (fun h => ?_) (fun h => ?_)
  · refine g_iload_n X dJ7_copyOf_59c91_14 1 rfl rfl ?_
    refine g_newi X (L + 1) (by omega) kac_int ⟨by show 0 + 1 ≤ 1; omega, by show 0 + (L + 1) ≤ 20; omega⟩ dJ7_copyOf_59c91_15 (fun q => ?_)
    have eA : xAd ad n q k0 = ad k0 := if_neg (by omega)
    have eN : xAd ad n q n = q := if_pos rfl
    refine g_astore_n X [(2, .ref _), (0, .ref _), (1, .int _)] dJ7_copyOf_59c91_17 rfl (by decide) rfl ?_
    refine g_eqv (ls' := [(2, .ref (xAd ad n q n)), (0, .ref (xAd ad n q k0)), (1, .int (nI (L + 1)))]) ?_ (by rw [eA]) rfl rfl rfl
    refine g_aload_n X dJ7_copyOf_59c91_18 1 rfl rfl ?_
    refine g_iconst X (v := 0) dJ7_copyOf_59c91_19 (by decide) ?_
    refine g_aload_n X dJ7_copyOf_59c91_20 0 rfl rfl ?_
    refine g_iconst X (v := 0) dJ7_copyOf_59c91_21 (by decide) ?_
    refine g_aload_n X dJ7_copyOf_59c91_22 1 rfl rfl ?_
    refine g_alen (t0 := 0) X k0 (by omega) (gAI.ln (gAI_x hF (by omega))) rfl dJ7_copyOf_59c91_23 ?_
    refine g_iload_n X dJ7_copyOf_59c91_24 2 rfl rfl ?_
    refine g_mmin X km_J7_304 kt_mmin ki_math kc_mmin ⟨Nat.le_of_ble_eq_true rfl, Nat.le_of_ble_eq_true rfl, by show 0 + 1 ≤ 1; omega, by show 0 + (L + 1) ≤ 20; omega⟩ dJ7_copyOf_59c91_25 ?_
    rw [show (if nI (L + 1) < nI L then nI (L + 1) else nI L) = nI L from if_neg (fun h9 => by have := (nI_ltI (by omega) (by omega)).mp h9; omega)]
    refine g_copyN X k0 n L L (L + 1) (by omega) (by omega) km_J7_150 kt_copyn kt_copy ki_sys (gAI_x hF (by omega)) gAI_n (by omega) (by omega) (by omega) ⟨Nat.le_of_ble_eq_true rfl, Nat.le_of_ble_eq_true rfl⟩ dJ7_copyOf_59c91_28 (fun ρ1 e1 => ?_)
    refine g_aload_n X dJ7_copyOf_59c91_31 0 rfl rfl ?_
    rw [eN]
    refine g_raret X hr (Or.inr ⟨_, rfl⟩) hlk HA (by show 0 + 1 ≤ 1; omega) (by show 0 + (L + 1) ≤ 20; omega) dJ7_copyOf_59c91_32 (fun k hk => Or.inl ?_)
    subst e1
    by_cases hk9 : k = n
    · subst hk9
      have a1 : xRo ρ k k0 = ρ k0 := if_neg (by omega)
      have a2 : xRo ρ k k = fun _ => 0 := if_pos rfl
      simp only [xCz, if_pos, up1]
      rw [a1, a2]
    · simp only [xCz, if_neg hk9, up1, xRo]
  · omega
end ST
